/-! The class's reader with its codes: prices. -/
/-- the class's code of one of a price's -/
def trP (x : Int × Int) : Int := if x.1 = 1 then 2 + 256 * x.2 else if x.1 = 2 then 3 + 256 * x.2 else if x.1 = 3 then 30 else if x.1 = 9 then 31 else if x.1 = 10 then 32 else if x.1 = 7 then 60 else if x.1 = 8 then 61 else if x.1 = 4 then 43 else if x.1 = 5 then 45 else 42
theorem trP_3 : trP (3, 0) = 30 := rfl
theorem sp_fact_le {v : Int} : sp_fact v ≤ 2 := by
  unfold sp_fact
  repeat (first | split | omega)
theorem shl8_32 (n : Nat) (h : n < 8388608) : yi_shl (n : Int) 8 = ((256 * n : Nat) : Int) := by
  show ((BitVec.ofInt 32 (n : Int)) <<< (BitVec.smod (Int32.ofInt 8 &&& 31).toBitVec 32).toNat).toInt = _
  rw [show (BitVec.smod (Int32.ofInt 8 &&& 31).toBitVec 32).toNat = 8 from by decide]
  have e : ((BitVec.ofInt 32 (n : Int)) <<< 8).toNat = 256 * n := by
    rw [BitVec.toNat_shiftLeft, BitVec.ofInt_natCast, BitVec.toNat_ofNat, Nat.mod_eq_of_lt (by omega), Nat.shiftLeft_eq, Nat.mod_eq_of_lt (by omega)]
    omega
  rw [BitVec.toInt_eq_toNat_of_lt (by rw [e]; omega), e]
theorem pt_ior {k v : Int} {n : Nat} (hk : k = (n : Int)) (hn : n < 16) (hv : 0 ≤ v ∧ v ≤ 9999) : yi_ior k (yi_shl v 8) = k + 256 * v := by
  obtain ⟨m, rfl⟩ : ∃ m : Nat, v = m := ⟨v.toNat, by omega⟩
  subst hk
  rw [shl8_32 m (by omega), cd_or (k := 8) (y := m) (by omega) (by omega) (by omega)]
  omega
theorem pt_num {k v : Int} (hk : k = 2) (hv : 0 ≤ v ∧ v ≤ 9999) : trP (1, v) = yi_ior k (yi_shl v 8) := by
  rw [pt_ior (n := 2) hk (by omega) hv, hk]
  rfl
theorem pt_fact {k v : Int} (hk : k = 3) (hv : 0 ≤ v ∧ v ≤ 2) : trP (2, v) = yi_ior k (yi_shl v 8) := by
  rw [pt_ior (n := 3) hk (by omega) ⟨hv.1, by omega⟩, hk]
  rfl
theorem trP_sg {k : Int} (h : sp_lev k ≤ 3) : trP (sp_sg k.toNat, 0) = k ∧ ¬ sp_sg k.toNat = 11 ∧ ¬ sp_sg k.toNat = 0 := by
  have hk : k = 31 ∨ k = 32 ∨ k = 60 ∨ k = 61 ∨ k = 43 ∨ k = 45 ∨ k = 42 := by
    by_cases c : k = 31 ∨ k = 32 ∨ k = 60 ∨ k = 61 ∨ k = 43 ∨ k = 45 ∨ k = 42
    · exact c
    · exfalso
      unfold sp_lev at h
      rw [if_neg (by omega), if_neg (by omega), if_neg (by omega), if_neg (by omega)] at h
      omega
  rcases hk with rfl | rfl | rfl | rfl | rfl | rfl | rfl <;> exact ⟨rfl, by decide, by decide⟩
theorem isnm_n {x : Int × Int} (h : ¬ x.1 = 11) : isnm x = false := decide_eq_false (fun z => h z.1)
def cs_RPC (d : Nat) : Prop := ∀ {I L : Nat → Nat → Int} {R : Nat → Nat → Option Nat} {Y : (Nat → Nat) × (Nat → Nat) × Nat} {K P V : Nat → Int} {te q a : Nat} {ld : Nat → Int} {nm : Int → Int} {u0 : Nat} {cb : List (Int × Int)} {fx : Nat → Int} {b0 vg : Int} (dp : Nat) (sk : List Nat) (cs : List (Int × Int)), cs_W I L R Y K P V te q ld nm → I 11 11 = 0 → cs_A I L K te a → dp ≤ 5 → cc_S trP u0 cb fx b0 vg false I cs → u0 + cs.length + te ≤ 1001 + cb.length + a → yi_P zi_Ms d 261 [.inr (.inr (some 11)), .inl (dp : Int)] (I, L, R, Y) (cs_QRC trP u0 cb fx b0 vg I L R Y K P V te (12, a, dp, sk, ld, nm, cs) 13 a dp sk ld nm cs)
def cs_REC (d l : Nat) : Prop := ∀ {I L : Nat → Nat → Int} {R : Nat → Nat → Option Nat} {Y : (Nat → Nat) × (Nat → Nat) × Nat} {K P V : Nat → Int} {te q a : Nat} {ld : Nat → Int} {nm : Int → Int} {u0 : Nat} {cb : List (Int × Int)} {fx : Nat → Int} {b0 vg : Int} (dp : Nat) (sk : List Nat) (cs : List (Int × Int)), cs_W I L R Y K P V te q ld nm → I 11 11 = 0 → cs_A I L K te a → dp ≤ 5 → cc_S trP u0 cb fx b0 vg false I cs → u0 + cs.length + te ≤ 1001 + cb.length + a → yi_P zi_Ms d 255 [.inr (.inr (some 11)), .inl (l : Int), .inl (dp : Int)] (I, L, R, Y) (cs_QRC trP u0 cb fx b0 vg I L R Y K P V te (8 + l, a, dp, sk, ld, nm, cs) 13 a dp sk ld nm cs)
theorem p_readPartC_s {d : Nat} {I L : Nat → Nat → Int} {R : Nat → Nat → Option Nat} {Y : (Nat → Nat) × (Nat → Nat) × Nat} (hRP : cs_RPC d) (hRE : cs_REC d 0) {K P V : Nat → Int} {te q a : Nat} {ld : Nat → Int} {nm : Int → Int} (hW : cs_W I L R Y K P V te q ld nm) (hf : I 11 11 = 0) (hA : cs_A I L K te a) (dp : Nat) (sk : List Nat) (cs : List (Int × Int)) (hd : dp ≤ 5) {u0 : Nat} {cb : List (Int × Int)} {fx : Nat → Int} {b0 vg : Int} (hcc : cc_S trP u0 cb fx b0 vg false I cs) (hu : u0 + cs.length + te ≤ 1001 + cb.length + a) : yi_P zi_Ms (d + 1) 261 [.inr (.inr (some 11)), .inl (dp : Int)] (I, L, R, Y) (cs_QRC trP u0 cb fx b0 vg I L R Y K P V te (12, a, dp, sk, ld, nm, cs) 13 a dp sk ld nm cs) := by
  refine yi_P_s (M := zi_m261) rfl (fun k => ?_)
  have hy18 := hW.1.2.2.2.2.2.2.2.1
  have hp := hW.2.1.2.2.1 a hA.2.1
  have hc0 := cc_le hcc
  have hle0 := hA.2.1
  have hte0 := hW.2.1.1
  show yi_D zi_Ms d zi_m261 k (0, [(0, .inr (.inr (some 11))), (1, .inl (dp : Int))], [], (I, L, R, Y), 0, 0) _
  refine yi_D_run 1 (1, [(0, .inr (.inr (some 11))), (1, .inl (dp : Int))], [.inr (.inr (some 11))], (I, L, R, Y), 0, 0) (fun _ => rfl) ?_
  refine yi_D_gi (v := K a) rfl rfl rfl hA.2.2.1 (fun _ => ?_)
  refine yi_D_run 3 (7, [(2, .inl (K a)), (0, .inr (.inr (some 11))), (1, .inl (dp : Int))], [.inl 3, .inl (K a)], (I, L, R, Y), 0, 0) (fun _ => rfl) ?_
  by_cases h1 : (K a) = 3
  · refine yi_D_if2 false rfl (yi_ne_f h1) ?_
    refine yi_D_run 1 (11, [(2, .inl (K a)), (0, .inr (.inr (some 11))), (1, .inl (dp : Int))], [.inr (.inr (some 11))], (I, L, R, Y), 0, 0) (fun _ => rfl) ?_
    refine yi_D_gr (v := some 18) rfl rfl rfl hW.1.1.2.1 (fun _ => ?_)
    refine yi_D_run 1 (15, [(2, .inl (K a)), (0, .inr (.inr (some 11))), (1, .inl (dp : Int))], [.inr (.inr (some 11)), .inr (.inr (some 18))], (I, L, R, Y), 0, 0) (fun _ => rfl) ?_
    refine yi_D_gr (v := some 18) rfl rfl rfl hW.1.1.2.1 (fun _ => ?_)
    refine yi_D_len (v := 3) rfl rfl (by rw [hW.1.2.2.2.2.2.2.2.1]; rfl) ?_
    refine yi_D_run 1 (20, [(2, .inl (K a)), (0, .inr (.inr (some 11))), (1, .inl (dp : Int))], [.inr (.inr (some 11)), .inl 3, .inr (.inr (some 18))], (I, L, R, Y), 0, 0) (fun _ => rfl) ?_
    refine yi_D_gl (v := L 16 a) rfl rfl rfl hA.2.2.2 (fun _ => ?_)
    refine yi_D_calls rfl (p_find (by omega) ⟨by omega, by omega, by omega⟩) ?_
    rintro _ ⟨z2, rfl, hz3⟩
    show yi_D zi_Ms d zi_m261 k (26, [(2, .inl (K a)), (0, .inr (.inr (some 11))), (1, .inl (dp : Int))], [.inl z2], (I, L, R, Y), 0, 0) _
    refine yi_D_run 4 (33, [(3, .inl z2), (2, .inl (K a)), (0, .inr (.inr (some 11))), (1, .inl (dp : Int))], [.inl 2, .inl (K a)], (I, L, R, Y), 0, 0) (fun _ => rfl) ?_
    have hfz := cs_fact hW.2.1 hA.2.1 (by omega) hz3
    have h4 : ¬ ((K a) = 2) := by omega
    refine yi_D_if2 false rfl (yi_eq_f h4) ?_
    refine yi_D_run 2 (39, [(3, .inl z2), (2, .inl (K a)), (0, .inr (.inr (some 11))), (1, .inl (dp : Int))], [.inl 30, .inl (K a)], (I, L, R, Y), 0, 0) (fun _ => rfl) ?_
    have h5 : ¬ ((K a) = 30) := by omega
    refine yi_D_if2 false rfl (yi_eq_f h5) ?_
    refine yi_D_run 2 (45, [(3, .inl z2), (2, .inl (K a)), (0, .inr (.inr (some 11))), (1, .inl (dp : Int))], [.inl 40, .inl (K a)], (I, L, R, Y), 0, 0) (fun _ => rfl) ?_
    have h6 : ¬ ((K a) = 40) := by omega
    refine yi_D_if2 false rfl (yi_eq_f h6) ?_
    refine yi_D_run 2 (50, [(3, .inl z2), (2, .inl (K a)), (0, .inr (.inr (some 11))), (1, .inl (dp : Int))], [.inl (-1), .inl z2], (I, L, R, Y), 0, 0) (fun _ => rfl) ?_
    by_cases h7 : z2 = (-1)
    · refine yi_D_if2 false rfl (yi_ne_f h7) ?_
      refine yi_D_run 2 (55, [(3, .inl z2), (2, .inl (K a)), (0, .inr (.inr (some 11))), (1, .inl (dp : Int))], [.inl 1, .inr (.inr (some 11))], (I, L, R, Y), 0, 0) (fun _ => rfl) ?_
      refine yi_D_callv rfl (p_wrong_z ⟨by omega, by omega⟩ hW hf hA) ?_
      rintro _ ⟨I8, rfl, hg9, he10⟩
      have hGw11 : cs_G I L I8 L := ⟨fun p k hp => hg9 p k (by omega), fun _ _ _ => rfl⟩
      have hW12 := cs_W_t hW (cs_G_F hGw11)
      have hF13 := (cs_G_F hGw11)
      have hG14 := hGw11
      have hz15 : ¬ sp_f P a 1 = 0 := sp_f_ne hW hA.2.1 (by omega)
      have hn16 : ¬ I8 11 11 = 0 := by rw [he10]; exact hz15
      have hx17 : sp_R K P V (12, a, dp, sk, ld, nm, cs) (.inr (sp_f P a 1)) := sp_R_1 (by
        show sp_part K P V a dp sk ld nm cs = _
        first
        | (exfalso; omega)
        | (unfold sp_part; repeat (first | rw [if_pos (by omega)] | rw [if_neg (by omega)])))
      show yi_D zi_Ms d zi_m261 k (58, [(3, .inl z2), (2, .inl (K a)), (0, .inr (.inr (some 11))), (1, .inl (dp : Int))], [], (I8, L, R, Y), 0, 0) _
      refine yi_D_run 2 (72, [(3, .inl z2), (2, .inl (K a)), (0, .inr (.inr (some 11))), (1, .inl (dp : Int))], [.inr (.inr (some 11))], (I8, L, R, Y), 0, 0) (fun _ => rfl) ?_
      refine yi_D_gi (v := I8 11 11) rfl rfl rfl rfl (fun _ => ?_)
      have h18 : ¬ ((I8 11 11) = 0) := by omega
      refine yi_D_if1 false rfl (yi_eq_f h18) ?_
      refine yi_D_retv rfl ?_
      exact ⟨_, _, rfl, hF13, Or.inr ⟨_, hx17, hz15, he10⟩⟩
    · refine yi_D_if2 true rfl (yi_ne_t h7) ?_
      refine yi_D_run 2 (63, [(3, .inl z2), (2, .inl (K a)), (0, .inr (.inr (some 11))), (1, .inl (dp : Int))], [.inl 5, .inl (dp : Int)], (I, L, R, Y), 0, 0) (fun _ => rfl) ?_
      by_cases h19 : (dp : Int) < 5
      · refine yi_D_if2 true rfl (yi_lt_t h19) ?_
        refine yi_D_run 1 (72, [(3, .inl z2), (2, .inl (K a)), (0, .inr (.inr (some 11))), (1, .inl (dp : Int))], [.inr (.inr (some 11))], (I, L, R, Y), 0, 0) (fun _ => rfl) ?_
        refine yi_D_gi (v := 0) rfl rfl rfl hf (fun _ => ?_)
        refine yi_D_if1 true rfl (by decide) ?_
        refine yi_D_run 2 (81, [(3, .inl z2), (2, .inl (K a)), (0, .inr (.inr (some 11))), (1, .inl (dp : Int))], [.inl 3, .inl (K a)], (I, L, R, Y), 0, 0) (fun _ => rfl) ?_
        have h20 : (K a) = 3 := by omega
        refine yi_D_if2 false rfl (yi_ne_f h20) ?_
        refine yi_D_run 4 (96, [(4, .inl z2), (3, .inl z2), (2, .inl (K a)), (0, .inr (.inr (some 11))), (1, .inl (dp : Int))], [.inr (.inr (some 11))], (I, L, R, Y), 0, 0) (fun _ => rfl) ?_
        refine yi_D_callv rfl (p_advance_z hW hf hA) ?_
        rintro _ ⟨I21, L22, rfl, hGa23, hf24, hA25⟩
        rw [sp_nx_lt (cs_lt hW.2.1 hA.2.1 (by omega))] at hA25
        have hA25 : cs_A I21 L22 K te (a + 1) := hA25
        have hW26 := cs_W_t hW (cs_G_F hGa23)
        have hF27 := (cs_G_F hGa23)
        have hG28 := hGa23
        have hcc29 := cc_G hcc hGa23
        show yi_D zi_Ms d zi_m261 k (99, [(4, .inl z2), (3, .inl z2), (2, .inl (K a)), (0, .inr (.inr (some 11))), (1, .inl (dp : Int))], [], (I21, L22, R, Y), 0, 0) _
        refine yi_D_run 2 (102, [(4, .inl z2), (3, .inl z2), (2, .inl (K a)), (0, .inr (.inr (some 11))), (1, .inl (dp : Int))], [.inl 30, .inl (K a)], (I21, L22, R, Y), 0, 0) (fun _ => rfl) ?_
        have h30 : ¬ ((K a) = 30) := by omega
        refine yi_D_if2 true rfl (yi_ne_t h30) ?_
        refine yi_D_run 2 (124, [(4, .inl z2), (3, .inl z2), (2, .inl (K a)), (0, .inr (.inr (some 11))), (1, .inl (dp : Int))], [.inl 40, .inl (K a)], (I21, L22, R, Y), 0, 0) (fun _ => rfl) ?_
        have h31 : ¬ ((K a) = 40) := by omega
        refine yi_D_if2 true rfl (yi_ne_t h31) ?_
        refine yi_D_run 6 (152, [(4, .inl z2), (3, .inl z2), (2, .inl (K a)), (0, .inr (.inr (some 11))), (1, .inl (dp : Int))], [.inl (yi_ior (K a) (yi_shl z2 8)), .inr (.inr (some 11))], (I21, L22, R, Y), 0, 0) (fun _ => rfl) ?_
        refine yi_D_callv rfl (p_emitC hW26 hf24 (cc_u hcc29) (by omega)) ?_
        rintro _ ⟨I32, rfl, hE33⟩
        have hE34 := cc_E_E hE33
        have hx : (if K a = 2 then ((1 : Int), V a) else (2, sp_fact (V a))) = (2, sp_fact (V a)) := if_neg (by omega)
        have hsf := sp_fact_le (v := V a)
        have hv : trP (2, sp_fact (V a)) = yi_ior (K a) (yi_shl z2 8) := by
          rw [hfz.1]
          exact pt_fact (by omega) ⟨by omega, hsf⟩
        have hcc35 : cc_S trP u0 cb fx b0 vg false I32 (cs ++ [(if K a = 2 then ((1 : Int), V a) else (2, sp_fact (V a)))]) := by
          rw [hx]
          exact cc_push hcc29 hE33 hv (isnm_n (show ¬ ((2 : Int) = 11) by decide)) (show ¬ ((2 : Int) = 0) by decide)
        have hlnhcc35 := List.length_append (as := cs) (bs := [(if K a = 2 then ((1 : Int), V a) else (2, sp_fact (V a)))])
        rw [List.length_singleton] at hlnhcc35
        have hW36 := cs_W_t hW26 (cs_E_F (L := L22) hE34)
        have hF37 := cs_F_t hF27 (cs_E_F hE34)
        have hf38 : I32 11 11 = 0 := (hE34 11 11 (by omega) (by omega)).trans hf24
        have hA39 := cs_A_e hA25 hE34
        show yi_D zi_Ms d zi_m261 k (155, [(4, .inl z2), (3, .inl z2), (2, .inl (K a)), (0, .inr (.inr (some 11))), (1, .inl (dp : Int))], [], (I32, L22, R, Y), 0, 0) _
        refine yi_D_retv rfl ?_
        have hst : sp_R K P V (12, a, dp, sk, ld, nm, cs) (.inl (13, a + 1, dp, sk, ld, nm, cs ++ [(if K a = 2 then ((1 : Int), V a) else (2, sp_fact (V a)))])) := sp_R_1 (by
          show sp_part K P V a dp sk ld nm cs = _
          unfold sp_part
          rw [if_neg (by omega), if_neg (by omega), if_neg (by omega), if_neg (by omega)])
        exact ⟨_, _, rfl, hF37, Or.inl ⟨_, _, hst, by omega, hf38, hA39, hcc35, by omega⟩⟩
      · refine yi_D_if2 false rfl (yi_lt_f h19) ?_
        refine yi_D_run 2 (68, [(3, .inl z2), (2, .inl (K a)), (0, .inr (.inr (some 11))), (1, .inl (dp : Int))], [.inl 5, .inr (.inr (some 11))], (I, L, R, Y), 0, 0) (fun _ => rfl) ?_
        refine yi_D_callv rfl (p_wrong_z ⟨by omega, by omega⟩ hW hf hA) ?_
        rintro _ ⟨I40, rfl, hg41, he42⟩
        have hGw43 : cs_G I L I40 L := ⟨fun p k hp => hg41 p k (by omega), fun _ _ _ => rfl⟩
        have hW44 := cs_W_t hW (cs_G_F hGw43)
        have hF45 := (cs_G_F hGw43)
        have hG46 := hGw43
        have hz47 : ¬ sp_f P a 5 = 0 := sp_f_ne hW hA.2.1 (by omega)
        have hn48 : ¬ I40 11 11 = 0 := by rw [he42]; exact hz47
        have hx49 : sp_R K P V (12, a, dp, sk, ld, nm, cs) (.inr (sp_f P a 5)) := sp_R_1 (by
          show sp_part K P V a dp sk ld nm cs = _
          first
          | (exfalso; omega)
          | (unfold sp_part; repeat (first | rw [if_pos (by omega)] | rw [if_neg (by omega)])))
        show yi_D zi_Ms d zi_m261 k (71, [(3, .inl z2), (2, .inl (K a)), (0, .inr (.inr (some 11))), (1, .inl (dp : Int))], [], (I40, L, R, Y), 0, 0) _
        refine yi_D_run 1 (72, [(3, .inl z2), (2, .inl (K a)), (0, .inr (.inr (some 11))), (1, .inl (dp : Int))], [.inr (.inr (some 11))], (I40, L, R, Y), 0, 0) (fun _ => rfl) ?_
        refine yi_D_gi (v := I40 11 11) rfl rfl rfl rfl (fun _ => ?_)
        have h50 : ¬ ((I40 11 11) = 0) := by omega
        refine yi_D_if1 false rfl (yi_eq_f h50) ?_
        refine yi_D_retv rfl ?_
        exact ⟨_, _, rfl, hF45, Or.inr ⟨_, hx49, hz47, he42⟩⟩
  · refine yi_D_if2 true rfl (yi_ne_t h1) ?_
    refine yi_D_run 4 (33, [(3, .inl (-1)), (2, .inl (K a)), (0, .inr (.inr (some 11))), (1, .inl (dp : Int))], [.inl 2, .inl (K a)], (I, L, R, Y), 0, 0) (fun _ => rfl) ?_
    
    by_cases h51 : (K a) = 2
    · refine yi_D_if2 true rfl (yi_eq_t h51) ?_
      refine yi_D_run 2 (63, [(3, .inl (-1)), (2, .inl (K a)), (0, .inr (.inr (some 11))), (1, .inl (dp : Int))], [.inl 5, .inl (dp : Int)], (I, L, R, Y), 0, 0) (fun _ => rfl) ?_
      by_cases h52 : (dp : Int) < 5
      · refine yi_D_if2 true rfl (yi_lt_t h52) ?_
        refine yi_D_run 1 (72, [(3, .inl (-1)), (2, .inl (K a)), (0, .inr (.inr (some 11))), (1, .inl (dp : Int))], [.inr (.inr (some 11))], (I, L, R, Y), 0, 0) (fun _ => rfl) ?_
        refine yi_D_gi (v := 0) rfl rfl rfl hf (fun _ => ?_)
        refine yi_D_if1 true rfl (by decide) ?_
        refine yi_D_run 2 (81, [(3, .inl (-1)), (2, .inl (K a)), (0, .inr (.inr (some 11))), (1, .inl (dp : Int))], [.inl 3, .inl (K a)], (I, L, R, Y), 0, 0) (fun _ => rfl) ?_
        have h53 : ¬ ((K a) = 3) := by omega
        refine yi_D_if2 true rfl (yi_ne_t h53) ?_
        refine yi_D_run 1 (89, [(3, .inl (-1)), (2, .inl (K a)), (0, .inr (.inr (some 11))), (1, .inl (dp : Int))], [.inr (.inr (some 11))], (I, L, R, Y), 0, 0) (fun _ => rfl) ?_
        refine yi_D_gl (v := L 16 a) rfl rfl rfl hA.2.2.2 (fun _ => ?_)
        refine yi_D_run 3 (96, [(4, .inl (yi_w (L 16 a))), (3, .inl (-1)), (2, .inl (K a)), (0, .inr (.inr (some 11))), (1, .inl (dp : Int))], [.inr (.inr (some 11))], (I, L, R, Y), 0, 0) (fun _ => rfl) ?_
        refine yi_D_callv rfl (p_advance_z hW hf hA) ?_
        rintro _ ⟨I54, L55, rfl, hGa56, hf57, hA58⟩
        rw [sp_nx_lt (cs_lt hW.2.1 hA.2.1 (by omega))] at hA58
        have hA58 : cs_A I54 L55 K te (a + 1) := hA58
        have hW59 := cs_W_t hW (cs_G_F hGa56)
        have hF60 := (cs_G_F hGa56)
        have hG61 := hGa56
        have hcc62 := cc_G hcc hGa56
        show yi_D zi_Ms d zi_m261 k (99, [(4, .inl (yi_w (L 16 a))), (3, .inl (-1)), (2, .inl (K a)), (0, .inr (.inr (some 11))), (1, .inl (dp : Int))], [], (I54, L55, R, Y), 0, 0) _
        refine yi_D_run 2 (102, [(4, .inl (yi_w (L 16 a))), (3, .inl (-1)), (2, .inl (K a)), (0, .inr (.inr (some 11))), (1, .inl (dp : Int))], [.inl 30, .inl (K a)], (I54, L55, R, Y), 0, 0) (fun _ => rfl) ?_
        have h63 : ¬ ((K a) = 30) := by omega
        refine yi_D_if2 true rfl (yi_ne_t h63) ?_
        refine yi_D_run 2 (124, [(4, .inl (yi_w (L 16 a))), (3, .inl (-1)), (2, .inl (K a)), (0, .inr (.inr (some 11))), (1, .inl (dp : Int))], [.inl 40, .inl (K a)], (I54, L55, R, Y), 0, 0) (fun _ => rfl) ?_
        have h64 : ¬ ((K a) = 40) := by omega
        refine yi_D_if2 true rfl (yi_ne_t h64) ?_
        refine yi_D_run 6 (152, [(4, .inl (yi_w (L 16 a))), (3, .inl (-1)), (2, .inl (K a)), (0, .inr (.inr (some 11))), (1, .inl (dp : Int))], [.inl (yi_ior (K a) (yi_shl (yi_w (L 16 a)) 8)), .inr (.inr (some 11))], (I54, L55, R, Y), 0, 0) (fun _ => rfl) ?_
        refine yi_D_callv rfl (p_emitC hW59 hf57 (cc_u hcc62) (by omega)) ?_
        rintro _ ⟨I65, rfl, hE66⟩
        have hE67 := cc_E_E hE66
        have hx : (if K a = 2 then ((1 : Int), V a) else (2, sp_fact (V a))) = (1, V a) := if_pos (by omega)
        have hv : trP (1, V a) = yi_ior (K a) (yi_shl (yi_w (L 16 a)) 8) := by
          rw [show yi_w (L 16 a) = V a by (rw [(hp.2.2.2.1 (by omega)).1]; exact yi_wn (by have := hp.2.2.2.1 (by omega); omega) (by have := hp.2.2.2.1 (by omega); omega))]
          exact pt_num (by omega) (hp.2.2.2.1 (by omega)).2
        have hcc68 : cc_S trP u0 cb fx b0 vg false I65 (cs ++ [(if K a = 2 then ((1 : Int), V a) else (2, sp_fact (V a)))]) := by
          rw [hx]
          exact cc_push hcc62 hE66 hv (isnm_n (show ¬ ((1 : Int) = 11) by decide)) (show ¬ ((1 : Int) = 0) by decide)
        have hlnhcc68 := List.length_append (as := cs) (bs := [(if K a = 2 then ((1 : Int), V a) else (2, sp_fact (V a)))])
        rw [List.length_singleton] at hlnhcc68
        have hW69 := cs_W_t hW59 (cs_E_F (L := L55) hE67)
        have hF70 := cs_F_t hF60 (cs_E_F hE67)
        have hf71 : I65 11 11 = 0 := (hE67 11 11 (by omega) (by omega)).trans hf57
        have hA72 := cs_A_e hA58 hE67
        show yi_D zi_Ms d zi_m261 k (155, [(4, .inl (yi_w (L 16 a))), (3, .inl (-1)), (2, .inl (K a)), (0, .inr (.inr (some 11))), (1, .inl (dp : Int))], [], (I65, L55, R, Y), 0, 0) _
        refine yi_D_retv rfl ?_
        have hst : sp_R K P V (12, a, dp, sk, ld, nm, cs) (.inl (13, a + 1, dp, sk, ld, nm, cs ++ [(if K a = 2 then ((1 : Int), V a) else (2, sp_fact (V a)))])) := sp_R_1 (by
          show sp_part K P V a dp sk ld nm cs = _
          unfold sp_part
          rw [if_neg (by omega), if_neg (by omega), if_neg (by omega), if_neg (by omega)])
        exact ⟨_, _, rfl, hF70, Or.inl ⟨_, _, hst, by omega, hf71, hA72, hcc68, by omega⟩⟩
      · refine yi_D_if2 false rfl (yi_lt_f h52) ?_
        refine yi_D_run 2 (68, [(3, .inl (-1)), (2, .inl (K a)), (0, .inr (.inr (some 11))), (1, .inl (dp : Int))], [.inl 5, .inr (.inr (some 11))], (I, L, R, Y), 0, 0) (fun _ => rfl) ?_
        refine yi_D_callv rfl (p_wrong_z ⟨by omega, by omega⟩ hW hf hA) ?_
        rintro _ ⟨I73, rfl, hg74, he75⟩
        have hGw76 : cs_G I L I73 L := ⟨fun p k hp => hg74 p k (by omega), fun _ _ _ => rfl⟩
        have hW77 := cs_W_t hW (cs_G_F hGw76)
        have hF78 := (cs_G_F hGw76)
        have hG79 := hGw76
        have hz80 : ¬ sp_f P a 5 = 0 := sp_f_ne hW hA.2.1 (by omega)
        have hn81 : ¬ I73 11 11 = 0 := by rw [he75]; exact hz80
        have hx82 : sp_R K P V (12, a, dp, sk, ld, nm, cs) (.inr (sp_f P a 5)) := sp_R_1 (by
          show sp_part K P V a dp sk ld nm cs = _
          first
          | (exfalso; omega)
          | (unfold sp_part; repeat (first | rw [if_pos (by omega)] | rw [if_neg (by omega)])))
        show yi_D zi_Ms d zi_m261 k (71, [(3, .inl (-1)), (2, .inl (K a)), (0, .inr (.inr (some 11))), (1, .inl (dp : Int))], [], (I73, L, R, Y), 0, 0) _
        refine yi_D_run 1 (72, [(3, .inl (-1)), (2, .inl (K a)), (0, .inr (.inr (some 11))), (1, .inl (dp : Int))], [.inr (.inr (some 11))], (I73, L, R, Y), 0, 0) (fun _ => rfl) ?_
        refine yi_D_gi (v := I73 11 11) rfl rfl rfl rfl (fun _ => ?_)
        have h83 : ¬ ((I73 11 11) = 0) := by omega
        refine yi_D_if1 false rfl (yi_eq_f h83) ?_
        refine yi_D_retv rfl ?_
        exact ⟨_, _, rfl, hF78, Or.inr ⟨_, hx82, hz80, he75⟩⟩
    · refine yi_D_if2 false rfl (yi_eq_f h51) ?_
      refine yi_D_run 2 (39, [(3, .inl (-1)), (2, .inl (K a)), (0, .inr (.inr (some 11))), (1, .inl (dp : Int))], [.inl 30, .inl (K a)], (I, L, R, Y), 0, 0) (fun _ => rfl) ?_
      by_cases h84 : (K a) = 30
      · refine yi_D_if2 true rfl (yi_eq_t h84) ?_
        refine yi_D_run 2 (63, [(3, .inl (-1)), (2, .inl (K a)), (0, .inr (.inr (some 11))), (1, .inl (dp : Int))], [.inl 5, .inl (dp : Int)], (I, L, R, Y), 0, 0) (fun _ => rfl) ?_
        by_cases h85 : (dp : Int) < 5
        · refine yi_D_if2 true rfl (yi_lt_t h85) ?_
          refine yi_D_run 1 (72, [(3, .inl (-1)), (2, .inl (K a)), (0, .inr (.inr (some 11))), (1, .inl (dp : Int))], [.inr (.inr (some 11))], (I, L, R, Y), 0, 0) (fun _ => rfl) ?_
          refine yi_D_gi (v := 0) rfl rfl rfl hf (fun _ => ?_)
          refine yi_D_if1 true rfl (by decide) ?_
          refine yi_D_run 2 (81, [(3, .inl (-1)), (2, .inl (K a)), (0, .inr (.inr (some 11))), (1, .inl (dp : Int))], [.inl 3, .inl (K a)], (I, L, R, Y), 0, 0) (fun _ => rfl) ?_
          have h86 : ¬ ((K a) = 3) := by omega
          refine yi_D_if2 true rfl (yi_ne_t h86) ?_
          refine yi_D_run 1 (89, [(3, .inl (-1)), (2, .inl (K a)), (0, .inr (.inr (some 11))), (1, .inl (dp : Int))], [.inr (.inr (some 11))], (I, L, R, Y), 0, 0) (fun _ => rfl) ?_
          refine yi_D_gl (v := L 16 a) rfl rfl rfl hA.2.2.2 (fun _ => ?_)
          refine yi_D_run 3 (96, [(4, .inl (yi_w (L 16 a))), (3, .inl (-1)), (2, .inl (K a)), (0, .inr (.inr (some 11))), (1, .inl (dp : Int))], [.inr (.inr (some 11))], (I, L, R, Y), 0, 0) (fun _ => rfl) ?_
          refine yi_D_callv rfl (p_advance_z hW hf hA) ?_
          rintro _ ⟨I87, L88, rfl, hGa89, hf90, hA91⟩
          rw [sp_nx_lt (cs_lt hW.2.1 hA.2.1 (by omega))] at hA91
          have hA91 : cs_A I87 L88 K te (a + 1) := hA91
          have hW92 := cs_W_t hW (cs_G_F hGa89)
          have hF93 := (cs_G_F hGa89)
          have hG94 := hGa89
          have hcc95 := cc_G hcc hGa89
          show yi_D zi_Ms d zi_m261 k (99, [(4, .inl (yi_w (L 16 a))), (3, .inl (-1)), (2, .inl (K a)), (0, .inr (.inr (some 11))), (1, .inl (dp : Int))], [], (I87, L88, R, Y), 0, 0) _
          refine yi_D_run 2 (102, [(4, .inl (yi_w (L 16 a))), (3, .inl (-1)), (2, .inl (K a)), (0, .inr (.inr (some 11))), (1, .inl (dp : Int))], [.inl 30, .inl (K a)], (I87, L88, R, Y), 0, 0) (fun _ => rfl) ?_
          have h96 : (K a) = 30 := by omega
          refine yi_D_if2 false rfl (yi_ne_f h96) ?_
          refine yi_D_run 3 (108, [(4, .inl (yi_w (L 16 a))), (3, .inl (-1)), (2, .inl (K a)), (0, .inr (.inr (some 11))), (1, .inl (dp : Int))], [.inl 1, .inl (dp : Int), .inr (.inr (some 11))], (I87, L88, R, Y), 0, 0) (fun _ => rfl) ?_
          refine yi_D_iadd rfl ((dp : Int) + 1) (yi_wn (by omega) (by omega)) ?_
          have hst97 : sp_R K P V (12, a, dp, sk, ld, nm, cs) (.inl (12, a + 1, dp + 1, 5 :: sk, ld, nm, cs)) := sp_R_1 (by
            show sp_part K P V a dp sk ld nm cs = _
            unfold sp_part
            repeat (first | rw [if_pos (by omega)] | rw [if_neg (by omega)]))
          refine yi_D_callv rfl (hRP (dp + 1) (5 :: sk) cs hW92 hf90 hA91 (by omega) hcc95 (by omega)) ?_
          rintro _ ⟨I98, L99, rfl, hFr100, (⟨a101, cs102, hR103, lt104, hf105, hA106, hcc107, ll108⟩ | ⟨f109, hR110, hz111, he112⟩)⟩
          · have hW113 := cs_W_t hW92 hFr100
            have hF114 := cs_F_t hF93 hFr100
            have hF115 : ∀ p k, (p ≠ 11 ∧ p ≠ 19) → I98 p k = I87 p k := fun p k h => hFr100.1 p k h.1 h.2
            have hlehA106 := hA106.2.1
            have hclhcc107 := cc_le hcc107
            have hR116 : sp_R K P V (12, a, dp, sk, ld, nm, cs) (.inl (13, a101, dp, sk, ld, nm, cs102 ++ [(3, 0)])) := sp_R_s (sp_R_t hst97 hR103) rfl
            show yi_D zi_Ms d zi_m261 k (112, [(4, .inl (yi_w (L 16 a))), (3, .inl (-1)), (2, .inl (K a)), (0, .inr (.inr (some 11))), (1, .inl (dp : Int))], [], (I98, L99, R, Y), 0, 0) _
            refine yi_D_run 2 (115, [(4, .inl (yi_w (L 16 a))), (3, .inl (-1)), (2, .inl (K a)), (0, .inr (.inr (some 11))), (1, .inl (dp : Int))], [.inl 30, .inr (.inr (some 11))], (I98, L99, R, Y), 0, 0) (fun _ => rfl) ?_
            refine yi_D_callv rfl (p_emitC hW113 hf105 (cc_u hcc107) (by omega)) ?_
            rintro _ ⟨I117, rfl, hE118⟩
            have hE119 := cc_E_E hE118
            have hcc120 := cc_push hcc107 hE118 (x := (3, 0)) trP_3 rfl (by decide)
            have hlnhcc120 := List.length_append (as := cs102) (bs := [(3, 0)])
            rw [List.length_singleton] at hlnhcc120
            have hW121 := cs_W_t hW113 (cs_E_F (L := L99) hE119)
            have hF122 := cs_F_t hF114 (cs_E_F hE119)
            have hf123 : I117 11 11 = 0 := (hE119 11 11 (by omega) (by omega)).trans hf105
            have hA124 := cs_A_e hA106 hE119
            show yi_D zi_Ms d zi_m261 k (118, [(4, .inl (yi_w (L 16 a))), (3, .inl (-1)), (2, .inl (K a)), (0, .inr (.inr (some 11))), (1, .inl (dp : Int))], [], (I117, L99, R, Y), 0, 0) _
            refine yi_D_run 1 (155, [(4, .inl (yi_w (L 16 a))), (3, .inl (-1)), (2, .inl (K a)), (0, .inr (.inr (some 11))), (1, .inl (dp : Int))], [], (I117, L99, R, Y), 0, 0) (fun _ => rfl) ?_
            refine yi_D_retv rfl ?_
            exact ⟨_, _, rfl, hF122, Or.inl ⟨_, _, hR116, by omega, hf123, hA124, hcc120, by omega⟩⟩
          · have hW125 := cs_W_t hW92 hFr100
            have hF126 := cs_F_t hF93 hFr100
            have hF127 : ∀ p k, (p ≠ 11 ∧ p ≠ 19) → I98 p k = I87 p k := fun p k h => hFr100.1 p k h.1 h.2
            have hn128 : ¬ I98 11 11 = 0 := by rw [he112]; exact hz111
            have hx129 : sp_R K P V (12, a, dp, sk, ld, nm, cs) (.inr f109) := sp_R_t hst97 hR110
            show yi_D zi_Ms d zi_m261 k (112, [(4, .inl (yi_w (L 16 a))), (3, .inl (-1)), (2, .inl (K a)), (0, .inr (.inr (some 11))), (1, .inl (dp : Int))], [], (I98, L99, R, Y), 0, 0) _
            refine yi_D_run 2 (115, [(4, .inl (yi_w (L 16 a))), (3, .inl (-1)), (2, .inl (K a)), (0, .inr (.inr (some 11))), (1, .inl (dp : Int))], [.inl 30, .inr (.inr (some 11))], (I98, L99, R, Y), 0, 0) (fun _ => rfl) ?_
            refine yi_D_callv rfl (p_emit hW125) ?_
            rintro _ ⟨I130, rfl, hE131⟩
            have hW132 := cs_W_t hW125 (cs_E_F (L := L99) hE131)
            have hF133 := cs_F_t hF126 (cs_E_F hE131)
            have hf134 : ¬ I130 11 11 = 0 := by rw [hE131 11 11 (by omega) (by omega)]; exact hn128
            have he135 := (hE131 11 11 (by omega) (by omega)).trans he112
            show yi_D zi_Ms d zi_m261 k (118, [(4, .inl (yi_w (L 16 a))), (3, .inl (-1)), (2, .inl (K a)), (0, .inr (.inr (some 11))), (1, .inl (dp : Int))], [], (I130, L99, R, Y), 0, 0) _
            refine yi_D_run 1 (155, [(4, .inl (yi_w (L 16 a))), (3, .inl (-1)), (2, .inl (K a)), (0, .inr (.inr (some 11))), (1, .inl (dp : Int))], [], (I130, L99, R, Y), 0, 0) (fun _ => rfl) ?_
            refine yi_D_retv rfl ?_
            exact ⟨_, _, rfl, hF133, Or.inr ⟨_, hx129, hz111, he135⟩⟩
        · refine yi_D_if2 false rfl (yi_lt_f h85) ?_
          refine yi_D_run 2 (68, [(3, .inl (-1)), (2, .inl (K a)), (0, .inr (.inr (some 11))), (1, .inl (dp : Int))], [.inl 5, .inr (.inr (some 11))], (I, L, R, Y), 0, 0) (fun _ => rfl) ?_
          refine yi_D_callv rfl (p_wrong_z ⟨by omega, by omega⟩ hW hf hA) ?_
          rintro _ ⟨I136, rfl, hg137, he138⟩
          have hGw139 : cs_G I L I136 L := ⟨fun p k hp => hg137 p k (by omega), fun _ _ _ => rfl⟩
          have hW140 := cs_W_t hW (cs_G_F hGw139)
          have hF141 := (cs_G_F hGw139)
          have hG142 := hGw139
          have hz143 : ¬ sp_f P a 5 = 0 := sp_f_ne hW hA.2.1 (by omega)
          have hn144 : ¬ I136 11 11 = 0 := by rw [he138]; exact hz143
          have hx145 : sp_R K P V (12, a, dp, sk, ld, nm, cs) (.inr (sp_f P a 5)) := sp_R_1 (by
            show sp_part K P V a dp sk ld nm cs = _
            first
            | (exfalso; omega)
            | (unfold sp_part; repeat (first | rw [if_pos (by omega)] | rw [if_neg (by omega)])))
          show yi_D zi_Ms d zi_m261 k (71, [(3, .inl (-1)), (2, .inl (K a)), (0, .inr (.inr (some 11))), (1, .inl (dp : Int))], [], (I136, L, R, Y), 0, 0) _
          refine yi_D_run 1 (72, [(3, .inl (-1)), (2, .inl (K a)), (0, .inr (.inr (some 11))), (1, .inl (dp : Int))], [.inr (.inr (some 11))], (I136, L, R, Y), 0, 0) (fun _ => rfl) ?_
          refine yi_D_gi (v := I136 11 11) rfl rfl rfl rfl (fun _ => ?_)
          have h146 : ¬ ((I136 11 11) = 0) := by omega
          refine yi_D_if1 false rfl (yi_eq_f h146) ?_
          refine yi_D_retv rfl ?_
          exact ⟨_, _, rfl, hF141, Or.inr ⟨_, hx145, hz143, he138⟩⟩
      · refine yi_D_if2 false rfl (yi_eq_f h84) ?_
        refine yi_D_run 2 (45, [(3, .inl (-1)), (2, .inl (K a)), (0, .inr (.inr (some 11))), (1, .inl (dp : Int))], [.inl 40, .inl (K a)], (I, L, R, Y), 0, 0) (fun _ => rfl) ?_
        by_cases h147 : (K a) = 40
        · refine yi_D_if2 true rfl (yi_eq_t h147) ?_
          refine yi_D_run 2 (63, [(3, .inl (-1)), (2, .inl (K a)), (0, .inr (.inr (some 11))), (1, .inl (dp : Int))], [.inl 5, .inl (dp : Int)], (I, L, R, Y), 0, 0) (fun _ => rfl) ?_
          by_cases h148 : (dp : Int) < 5
          · refine yi_D_if2 true rfl (yi_lt_t h148) ?_
            refine yi_D_run 1 (72, [(3, .inl (-1)), (2, .inl (K a)), (0, .inr (.inr (some 11))), (1, .inl (dp : Int))], [.inr (.inr (some 11))], (I, L, R, Y), 0, 0) (fun _ => rfl) ?_
            refine yi_D_gi (v := 0) rfl rfl rfl hf (fun _ => ?_)
            refine yi_D_if1 true rfl (by decide) ?_
            refine yi_D_run 2 (81, [(3, .inl (-1)), (2, .inl (K a)), (0, .inr (.inr (some 11))), (1, .inl (dp : Int))], [.inl 3, .inl (K a)], (I, L, R, Y), 0, 0) (fun _ => rfl) ?_
            have h149 : ¬ ((K a) = 3) := by omega
            refine yi_D_if2 true rfl (yi_ne_t h149) ?_
            refine yi_D_run 1 (89, [(3, .inl (-1)), (2, .inl (K a)), (0, .inr (.inr (some 11))), (1, .inl (dp : Int))], [.inr (.inr (some 11))], (I, L, R, Y), 0, 0) (fun _ => rfl) ?_
            refine yi_D_gl (v := L 16 a) rfl rfl rfl hA.2.2.2 (fun _ => ?_)
            refine yi_D_run 3 (96, [(4, .inl (yi_w (L 16 a))), (3, .inl (-1)), (2, .inl (K a)), (0, .inr (.inr (some 11))), (1, .inl (dp : Int))], [.inr (.inr (some 11))], (I, L, R, Y), 0, 0) (fun _ => rfl) ?_
            refine yi_D_callv rfl (p_advance_z hW hf hA) ?_
            rintro _ ⟨I150, L151, rfl, hGa152, hf153, hA154⟩
            rw [sp_nx_lt (cs_lt hW.2.1 hA.2.1 (by omega))] at hA154
            have hA154 : cs_A I150 L151 K te (a + 1) := hA154
            have hW155 := cs_W_t hW (cs_G_F hGa152)
            have hF156 := (cs_G_F hGa152)
            have hG157 := hGa152
            have hcc158 := cc_G hcc hGa152
            show yi_D zi_Ms d zi_m261 k (99, [(4, .inl (yi_w (L 16 a))), (3, .inl (-1)), (2, .inl (K a)), (0, .inr (.inr (some 11))), (1, .inl (dp : Int))], [], (I150, L151, R, Y), 0, 0) _
            refine yi_D_run 2 (102, [(4, .inl (yi_w (L 16 a))), (3, .inl (-1)), (2, .inl (K a)), (0, .inr (.inr (some 11))), (1, .inl (dp : Int))], [.inl 30, .inl (K a)], (I150, L151, R, Y), 0, 0) (fun _ => rfl) ?_
            have h159 : ¬ ((K a) = 30) := by omega
            refine yi_D_if2 true rfl (yi_ne_t h159) ?_
            refine yi_D_run 2 (124, [(4, .inl (yi_w (L 16 a))), (3, .inl (-1)), (2, .inl (K a)), (0, .inr (.inr (some 11))), (1, .inl (dp : Int))], [.inl 40, .inl (K a)], (I150, L151, R, Y), 0, 0) (fun _ => rfl) ?_
            have h160 : (K a) = 40 := by omega
            refine yi_D_if2 false rfl (yi_ne_f h160) ?_
            refine yi_D_run 4 (131, [(4, .inl (yi_w (L 16 a))), (3, .inl (-1)), (2, .inl (K a)), (0, .inr (.inr (some 11))), (1, .inl (dp : Int))], [.inl 1, .inl (dp : Int), .inl 0, .inr (.inr (some 11))], (I150, L151, R, Y), 0, 0) (fun _ => rfl) ?_
            refine yi_D_iadd rfl ((dp : Int) + 1) (yi_wn (by omega) (by omega)) ?_
            have hst161 : sp_R K P V (12, a, dp, sk, ld, nm, cs) (.inl (8, a + 1, dp + 1, 6 :: sk, ld, nm, cs)) := sp_R_1 (by
              show sp_part K P V a dp sk ld nm cs = _
              unfold sp_part
              repeat (first | rw [if_pos (by omega)] | rw [if_neg (by omega)]))
            refine yi_D_callv rfl (hRE (dp + 1) (6 :: sk) cs hW155 hf153 hA154 (by omega) hcc158 (by omega)) ?_
            rintro _ ⟨I162, L163, rfl, hFr164, (⟨a165, cs166, hR167, lt168, hf169, hA170, hcc171, ll172⟩ | ⟨f173, hR174, hz175, he176⟩)⟩
            · have hW177 := cs_W_t hW155 hFr164
              have hF178 := cs_F_t hF156 hFr164
              have hF179 : ∀ p k, (p ≠ 11 ∧ p ≠ 19) → I162 p k = I150 p k := fun p k h => hFr164.1 p k h.1 h.2
              have hlehA170 := hA170.2.1
              have hclhcc171 := cc_le hcc171
              have hR180 := sp_R_t hst161 hR167
              show yi_D zi_Ms d zi_m261 k (135, [(4, .inl (yi_w (L 16 a))), (3, .inl (-1)), (2, .inl (K a)), (0, .inr (.inr (some 11))), (1, .inl (dp : Int))], [], (I162, L163, R, Y), 0, 0) _
              refine yi_D_run 2 (138, [(4, .inl (yi_w (L 16 a))), (3, .inl (-1)), (2, .inl (K a)), (0, .inr (.inr (some 11))), (1, .inl (dp : Int))], [.inl 41, .inr (.inr (some 11))], (I162, L163, R, Y), 0, 0) (fun _ => rfl) ?_
              refine yi_D_callv rfl (p_takeKind_z (by omega) hW177 hf169 hA170) ?_
              rintro _ (⟨c181, I182, L183, rfl, hGa184, hf185, hA186⟩ | ⟨c187, I188, L189, rfl, hGa190, he191⟩)
              · have hA186 : cs_A I182 L183 K te (a165 + 1) := hA186
                have hW192 := cs_W_t hW177 (cs_G_F hGa184)
                have hF193 := cs_F_t hF178 (cs_G_F hGa184)
                have hcc194 := cc_G hcc171 hGa184
                have hR195 : sp_R K P V (12, a, dp, sk, ld, nm, cs) (.inl (13, a165 + 1, dp, sk, ld, nm, cs166)) := sp_R_s hR180 (by
                  show (if K _ = 41 then _ else _) = _
                  rw [if_pos (by omega)]
                  rfl)
                show yi_D zi_Ms d zi_m261 k (141, [(4, .inl (yi_w (L 16 a))), (3, .inl (-1)), (2, .inl (K a)), (0, .inr (.inr (some 11))), (1, .inl (dp : Int))], [], (I182, L183, R, Y), 0, 0) _
                refine yi_D_run 1 (155, [(4, .inl (yi_w (L 16 a))), (3, .inl (-1)), (2, .inl (K a)), (0, .inr (.inr (some 11))), (1, .inl (dp : Int))], [], (I182, L183, R, Y), 0, 0) (fun _ => rfl) ?_
                refine yi_D_retv rfl ?_
                exact ⟨_, _, rfl, hF193, Or.inl ⟨_, _, hR195, by omega, hf185, hA186, hcc194, by omega⟩⟩
              · have hW196 := cs_W_t hW177 (cs_G_F hGa190)
                have hF197 := cs_F_t hF178 (cs_G_F hGa190)
                have hz198 : ¬ sp_f P a165 1 = 0 := sp_f_ne hW177 hA170.2.1 (by omega)
                have hn199 : ¬ I188 11 11 = 0 := by rw [he191]; exact hz198
                have hx200 : sp_R K P V (12, a, dp, sk, ld, nm, cs) (.inr (sp_f P a165 1)) := sp_R_s hR180 (by
                  show (if K _ = _ then _ else _) = _
                  rw [if_neg (by omega)])
                show yi_D zi_Ms d zi_m261 k (141, [(4, .inl (yi_w (L 16 a))), (3, .inl (-1)), (2, .inl (K a)), (0, .inr (.inr (some 11))), (1, .inl (dp : Int))], [], (I188, L189, R, Y), 0, 0) _
                refine yi_D_run 1 (155, [(4, .inl (yi_w (L 16 a))), (3, .inl (-1)), (2, .inl (K a)), (0, .inr (.inr (some 11))), (1, .inl (dp : Int))], [], (I188, L189, R, Y), 0, 0) (fun _ => rfl) ?_
                refine yi_D_retv rfl ?_
                exact ⟨_, _, rfl, hF197, Or.inr ⟨_, hx200, hz198, he191⟩⟩
            · have hW201 := cs_W_t hW155 hFr164
              have hF202 := cs_F_t hF156 hFr164
              have hF203 : ∀ p k, (p ≠ 11 ∧ p ≠ 19) → I162 p k = I150 p k := fun p k h => hFr164.1 p k h.1 h.2
              have hn204 : ¬ I162 11 11 = 0 := by rw [he176]; exact hz175
              have hx205 : sp_R K P V (12, a, dp, sk, ld, nm, cs) (.inr f173) := sp_R_t hst161 hR174
              show yi_D zi_Ms d zi_m261 k (135, [(4, .inl (yi_w (L 16 a))), (3, .inl (-1)), (2, .inl (K a)), (0, .inr (.inr (some 11))), (1, .inl (dp : Int))], [], (I162, L163, R, Y), 0, 0) _
              refine yi_D_run 2 (138, [(4, .inl (yi_w (L 16 a))), (3, .inl (-1)), (2, .inl (K a)), (0, .inr (.inr (some 11))), (1, .inl (dp : Int))], [.inl 41, .inr (.inr (some 11))], (I162, L163, R, Y), 0, 0) (fun _ => rfl) ?_
              refine yi_D_callv rfl (p_takeKind_f hW201 hn204) ?_
              rintro _ rfl
              show yi_D zi_Ms d zi_m261 k (141, [(4, .inl (yi_w (L 16 a))), (3, .inl (-1)), (2, .inl (K a)), (0, .inr (.inr (some 11))), (1, .inl (dp : Int))], [], (I162, L163, R, Y), 0, 0) _
              refine yi_D_run 1 (155, [(4, .inl (yi_w (L 16 a))), (3, .inl (-1)), (2, .inl (K a)), (0, .inr (.inr (some 11))), (1, .inl (dp : Int))], [], (I162, L163, R, Y), 0, 0) (fun _ => rfl) ?_
              refine yi_D_retv rfl ?_
              exact ⟨_, _, rfl, hF202, Or.inr ⟨_, hx205, hz175, he176⟩⟩
          · refine yi_D_if2 false rfl (yi_lt_f h148) ?_
            refine yi_D_run 2 (68, [(3, .inl (-1)), (2, .inl (K a)), (0, .inr (.inr (some 11))), (1, .inl (dp : Int))], [.inl 5, .inr (.inr (some 11))], (I, L, R, Y), 0, 0) (fun _ => rfl) ?_
            refine yi_D_callv rfl (p_wrong_z ⟨by omega, by omega⟩ hW hf hA) ?_
            rintro _ ⟨I206, rfl, hg207, he208⟩
            have hGw209 : cs_G I L I206 L := ⟨fun p k hp => hg207 p k (by omega), fun _ _ _ => rfl⟩
            have hW210 := cs_W_t hW (cs_G_F hGw209)
            have hF211 := (cs_G_F hGw209)
            have hG212 := hGw209
            have hz213 : ¬ sp_f P a 5 = 0 := sp_f_ne hW hA.2.1 (by omega)
            have hn214 : ¬ I206 11 11 = 0 := by rw [he208]; exact hz213
            have hx215 : sp_R K P V (12, a, dp, sk, ld, nm, cs) (.inr (sp_f P a 5)) := sp_R_1 (by
              show sp_part K P V a dp sk ld nm cs = _
              first
              | (exfalso; omega)
              | (unfold sp_part; repeat (first | rw [if_pos (by omega)] | rw [if_neg (by omega)])))
            show yi_D zi_Ms d zi_m261 k (71, [(3, .inl (-1)), (2, .inl (K a)), (0, .inr (.inr (some 11))), (1, .inl (dp : Int))], [], (I206, L, R, Y), 0, 0) _
            refine yi_D_run 1 (72, [(3, .inl (-1)), (2, .inl (K a)), (0, .inr (.inr (some 11))), (1, .inl (dp : Int))], [.inr (.inr (some 11))], (I206, L, R, Y), 0, 0) (fun _ => rfl) ?_
            refine yi_D_gi (v := I206 11 11) rfl rfl rfl rfl (fun _ => ?_)
            have h216 : ¬ ((I206 11 11) = 0) := by omega
            refine yi_D_if1 false rfl (yi_eq_f h216) ?_
            refine yi_D_retv rfl ?_
            exact ⟨_, _, rfl, hF211, Or.inr ⟨_, hx215, hz213, he208⟩⟩
        · refine yi_D_if2 false rfl (yi_eq_f h147) ?_
          refine yi_D_run 2 (50, [(3, .inl (-1)), (2, .inl (K a)), (0, .inr (.inr (some 11))), (1, .inl (dp : Int))], [.inl (-1), .inl (-1)], (I, L, R, Y), 0, 0) (fun _ => rfl) ?_
          refine yi_D_if2 false rfl (by decide) ?_
          refine yi_D_run 2 (55, [(3, .inl (-1)), (2, .inl (K a)), (0, .inr (.inr (some 11))), (1, .inl (dp : Int))], [.inl 1, .inr (.inr (some 11))], (I, L, R, Y), 0, 0) (fun _ => rfl) ?_
          refine yi_D_callv rfl (p_wrong_z ⟨by omega, by omega⟩ hW hf hA) ?_
          rintro _ ⟨I217, rfl, hg218, he219⟩
          have hGw220 : cs_G I L I217 L := ⟨fun p k hp => hg218 p k (by omega), fun _ _ _ => rfl⟩
          have hW221 := cs_W_t hW (cs_G_F hGw220)
          have hF222 := (cs_G_F hGw220)
          have hG223 := hGw220
          have hz224 : ¬ sp_f P a 1 = 0 := sp_f_ne hW hA.2.1 (by omega)
          have hn225 : ¬ I217 11 11 = 0 := by rw [he219]; exact hz224
          have hx226 : sp_R K P V (12, a, dp, sk, ld, nm, cs) (.inr (sp_f P a 1)) := sp_R_1 (by
            show sp_part K P V a dp sk ld nm cs = _
            first
            | (exfalso; omega)
            | (unfold sp_part; repeat (first | rw [if_pos (by omega)] | rw [if_neg (by omega)])))
          show yi_D zi_Ms d zi_m261 k (58, [(3, .inl (-1)), (2, .inl (K a)), (0, .inr (.inr (some 11))), (1, .inl (dp : Int))], [], (I217, L, R, Y), 0, 0) _
          refine yi_D_run 2 (72, [(3, .inl (-1)), (2, .inl (K a)), (0, .inr (.inr (some 11))), (1, .inl (dp : Int))], [.inr (.inr (some 11))], (I217, L, R, Y), 0, 0) (fun _ => rfl) ?_
          refine yi_D_gi (v := I217 11 11) rfl rfl rfl rfl (fun _ => ?_)
          have h227 : ¬ ((I217 11 11) = 0) := by omega
          refine yi_D_if1 false rfl (yi_eq_f h227) ?_
          refine yi_D_retv rfl ?_
          exact ⟨_, _, rfl, hF222, Or.inr ⟨_, hx226, hz224, he219⟩⟩
theorem p_readExprC_s0 {d : Nat} {I L : Nat → Nat → Int} {R : Nat → Nat → Option Nat} {Y : (Nat → Nat) × (Nat → Nat) × Nat} (hRE : cs_REC d 1) {K P V : Nat → Int} {te q a : Nat} {ld : Nat → Int} {nm : Int → Int} (hW : cs_W I L R Y K P V te q ld nm) (hf : I 11 11 = 0) (hA : cs_A I L K te a) (dp : Nat) (sk : List Nat) (cs : List (Int × Int)) (hd : dp ≤ 5) {u0 : Nat} {cb : List (Int × Int)} {fx : Nat → Int} {b0 vg : Int} (hcc : cc_S trP u0 cb fx b0 vg false I cs) (hu : u0 + cs.length + te ≤ 1001 + cb.length + a) : yi_P zi_Ms (d + 1) 255 [.inr (.inr (some 11)), .inl 0, .inl (dp : Int)] (I, L, R, Y) (cs_QRC trP u0 cb fx b0 vg I L R Y K P V te (8, a, dp, sk, ld, nm, cs) 13 a dp sk ld nm cs) := by
  refine yi_P_s (M := zi_m255) rfl (fun k => ?_)
  have hc0 := cc_le hcc
  have hle0 := hA.2.1
  have hte0 := hW.2.1.1
  have jn89f : ∀ (y5 : Int) (y4 : Int) (y3 : Int) (J G : Nat → Nat → Int) (f : Int), cs_F I L J G → J 11 11 = f → ¬ f = 0 → sp_R K P V (8, a, dp, sk, ld, nm, cs) (.inr f) → yi_D zi_Ms d zi_m255 k (89, [(5, .inl y5), (4, .inl y4), (3, .inl y3), (0, .inr (.inr (some 11))), (1, .inl 0), (2, .inl (dp : Int))], [], (J, G, R, Y), 0, 0) (cs_QRC trP u0 cb fx b0 vg I L R Y K P V te (8, a, dp, sk, ld, nm, cs) 13 a dp sk ld nm cs) := by
    intro y5 y4 y3 J G f jF je jn jsp 
    have jW := cs_W_t hW jF
    have jf : ¬ J 11 11 = 0 := by rw [je]; exact jn
    have jF1 : ∀ p k, (p ≠ 11 ∧ p ≠ 19) → J p k = I p k := fun p k h => jF.1 p k h.1 h.2
    have jF2 := jF.2
    refine yi_D_retv rfl ?_
    exact ⟨_, _, rfl, jF, Or.inr ⟨_, jsp, jn, je⟩⟩
  have jn35f : ∀ (y5 : Int) (y4 : Int) (y3 : Int) (J G : Nat → Nat → Int) (f : Int), cs_F I L J G → J 11 11 = f → ¬ f = 0 → sp_R K P V (8, a, dp, sk, ld, nm, cs) (.inr f) → yi_D zi_Ms d zi_m255 k (35, [(5, .inl y5), (4, .inl y4), (3, .inl y3), (0, .inr (.inr (some 11))), (1, .inl 0), (2, .inl (dp : Int))], [], (J, G, R, Y), 0, 0) (cs_QRC trP u0 cb fx b0 vg I L R Y K P V te (8, a, dp, sk, ld, nm, cs) 13 a dp sk ld nm cs) := by
    intro y5 y4 y3 J G f jF je jn jsp 
    have jW := cs_W_t hW jF
    have jf : ¬ J 11 11 = 0 := by rw [je]; exact jn
    have jF1 : ∀ p k, (p ≠ 11 ∧ p ≠ 19) → J p k = I p k := fun p k h => jF.1 p k h.1 h.2
    have jF2 := jF.2
    refine yi_D_run 2 (38, [(5, .inl y5), (4, .inl y4), (3, .inl y3), (0, .inr (.inr (some 11))), (1, .inl 0), (2, .inl (dp : Int))], [.inl y3, .inl y4], (J, G, R, Y), 0, 0) (fun _ => rfl) ?_
    by_cases h1 : y3 ≤ y4
    · refine yi_D_if2 true rfl (yi_ge_t h1) ?_
      exact yi_D_mono (jn89f y5 y4 y3 _ _ _ jF je jn jsp ) (by omega)
    · refine yi_D_if2 false rfl (yi_ge_f h1) ?_
      refine yi_D_run 1 (42, [(5, .inl y5), (4, .inl y4), (3, .inl y3), (0, .inr (.inr (some 11))), (1, .inl 0), (2, .inl (dp : Int))], [.inr (.inr (some 11))], (J, G, R, Y), 0, 0) (fun _ => rfl) ?_
      refine yi_D_gi (v := J 11 11) rfl rfl rfl rfl (fun _ => ?_)
      have h2 : ¬ ((J 11 11) = 0) := by omega
      refine yi_D_if1 true rfl (yi_ne_t h2) ?_
      exact yi_D_mono (jn89f y5 y4 y3 _ _ _ jF je jn jsp ) (by omega)
  show yi_D zi_Ms d zi_m255 k (0, [(0, .inr (.inr (some 11))), (1, .inl 0), (2, .inl (dp : Int))], [], (I, L, R, Y), 0, 0) _
  refine yi_D_run 2 (2, [(0, .inr (.inr (some 11))), (1, .inl 0), (2, .inl (dp : Int))], [.inl 4, .inl 0], (I, L, R, Y), 0, 0) (fun _ => rfl) ?_
  refine yi_D_if2 true rfl (by decide) ?_
  refine yi_D_run 3 (14, [(0, .inr (.inr (some 11))), (1, .inl 0), (2, .inl (dp : Int))], [.inl 1, .inl 0, .inr (.inr (some 11))], (I, L, R, Y), 0, 0) (fun _ => rfl) ?_
  refine yi_D_iadd rfl (1) (by decide) ?_
  refine yi_D_run 1 (16, [(0, .inr (.inr (some 11))), (1, .inl 0), (2, .inl (dp : Int))], [.inl (dp : Int), .inl 1, .inr (.inr (some 11))], (I, L, R, Y), 0, 0) (fun _ => rfl) ?_
  have hst3 : sp_R K P V (8, a, dp, sk, ld, nm, cs) (.inl (9, a, dp, 30 :: sk, ld, nm, cs)) := sp_R_1 rfl
  refine yi_D_callv rfl (hRE dp (30 :: sk) cs hW hf hA (by omega) hcc (by omega)) ?_
  rintro _ ⟨I4, L5, rfl, hFr6, (⟨a7, cs8, hR9, lt10, hf11, hA12, hcc13, ll14⟩ | ⟨f15, hR16, hz17, he18⟩)⟩
  · have hW19 := cs_W_t hW hFr6
    have hF20 := hFr6
    have hF21 : ∀ p k, (p ≠ 11 ∧ p ≠ 19) → I4 p k = I p k := fun p k h => hFr6.1 p k h.1 h.2
    have hlehA12 := hA12.2.1
    have hclhcc13 := cc_le hcc13
    have hR22 := sp_R_t hst3 hR9
    show yi_D zi_Ms d zi_m255 k (19, [(0, .inr (.inr (some 11))), (1, .inl 0), (2, .inl (dp : Int))], [], (I4, L5, R, Y), 0, 0) _
    refine yi_D_run 2 (21, [(0, .inr (.inr (some 11))), (1, .inl 0), (2, .inl (dp : Int))], [.inl 1, .inl 0], (I4, L5, R, Y), 0, 0) (fun _ => rfl) ?_
    refine yi_D_if2 true rfl (by decide) ?_
    refine yi_D_run 4 (35, [(4, .inl 0), (3, .inl 1000), (0, .inr (.inr (some 11))), (1, .inl 0), (2, .inl (dp : Int))], [], (I4, L5, R, Y), 0, 0) (fun _ => rfl) ?_
    have pt35 : ∀ j35, j35 ≤ k → ∀ (y4 : Int) (y5 : Int) (J1 : Nat → Nat → Int) (G1 : Nat → Nat → Int) (a1 : Nat) (cs1 : List (Int × Int)), (0 ≤ y4 ∧ 2 * y4 < (a1 : Int)) → (a < a1) → (cs_F I L J1 G1) → (J1 11 11 = 0) → (cs_A J1 G1 K te a1) → (sp_R K P V (8, a, dp, sk, ld, nm, cs) (.inl (13, a1, dp, 30 :: sk, ld, nm, cs1))) → (cc_S trP u0 cb fx b0 vg false J1 cs1) → (cs1.length + a ≤ cs.length + a1) → yi_D zi_Ms d zi_m255 j35 (35, [(4, .inl y4), (3, .inl 1000), (0, .inr (.inr (some 11))), (1, .inl 0), (2, .inl (dp : Int)), (5, .inl y5)], [], (J1, G1, R, Y), 0, 0) (cs_QRC trP u0 cb fx b0 vg I L R Y K P V te (8, a, dp, sk, ld, nm, cs) 13 a dp sk ld nm cs) := by
      intro j35
      induction j35 with
      | zero => intros; exact yi_D_0
      | succ j35 ih35 =>
      intro hk35 y4 y5 J1 G1 a1 cs1 hn9 lt9 hF9 hf9 hA9 hR9 hcc9 hu9
      have hW9 := cs_W_t hW hF9
      have hF91 : ∀ p k, (p ≠ 11 ∧ p ≠ 19) → J1 p k = I p k := fun p k h => hF9.1 p k h.1 h.2
      have hle9 := hA9.2.1
      have hte9 := hW.2.1.1
      have hc9 := cc_le hcc9
      refine yi_D_run1 1 (38, [(4, .inl y4), (3, .inl 1000), (0, .inr (.inr (some 11))), (1, .inl 0), (2, .inl (dp : Int)), (5, .inl y5)], [.inl 1000, .inl y4], (J1, G1, R, Y), 0, 0) (fun _ => rfl) ?_
      have h23 : ¬ (1000 ≤ y4) := by omega
      refine yi_D_if2 false rfl (yi_ge_f h23) ?_
      refine yi_D_run 1 (42, [(4, .inl y4), (3, .inl 1000), (0, .inr (.inr (some 11))), (1, .inl 0), (2, .inl (dp : Int)), (5, .inl y5)], [.inr (.inr (some 11))], (J1, G1, R, Y), 0, 0) (fun _ => rfl) ?_
      refine yi_D_gi (v := 0) rfl rfl rfl hf9 (fun _ => ?_)
      refine yi_D_if1 false rfl (by decide) ?_
      refine yi_D_run 1 (49, [(4, .inl y4), (3, .inl 1000), (0, .inr (.inr (some 11))), (1, .inl 0), (2, .inl (dp : Int)), (5, .inl y5)], [.inr (.inr (some 11))], (J1, G1, R, Y), 0, 0) (fun _ => rfl) ?_
      refine yi_D_gi (v := K a1) rfl rfl rfl hA9.2.2.1 (fun _ => ?_)
      refine yi_D_calls rfl (p_levelOf) ?_
      rintro _ rfl
      show yi_D zi_Ms d zi_m255 j35 (55, [(4, .inl y4), (3, .inl 1000), (0, .inr (.inr (some 11))), (1, .inl 0), (2, .inl (dp : Int)), (5, .inl y5)], [.inl (sp_lv (K a1))], (J1, G1, R, Y), 0, 0) _
      refine yi_D_run 1 (56, [(4, .inl y4), (3, .inl 1000), (0, .inr (.inr (some 11))), (1, .inl 0), (2, .inl (dp : Int)), (5, .inl y5)], [.inl 0, .inl (sp_lv (K a1))], (J1, G1, R, Y), 0, 0) (fun _ => rfl) ?_
      have hlva1 := sp_lv_i (k := K a1) (l := 0) (by omega)
      have hlna1 := sp_lev_n (k := K a1)
      by_cases h24 : (sp_lv (K a1)) = 0
      · refine yi_D_if2 false rfl (yi_ne_f h24) ?_
        refine yi_D_run 1 (60, [(4, .inl y4), (3, .inl 1000), (0, .inr (.inr (some 11))), (1, .inl 0), (2, .inl (dp : Int)), (5, .inl y5)], [.inr (.inr (some 11))], (J1, G1, R, Y), 0, 0) (fun _ => rfl) ?_
        refine yi_D_gi (v := K a1) rfl rfl rfl hA9.2.2.1 (fun _ => ?_)
        refine yi_D_run 2 (66, [(5, .inl (K a1)), (4, .inl y4), (3, .inl 1000), (0, .inr (.inr (some 11))), (1, .inl 0), (2, .inl (dp : Int))], [.inr (.inr (some 11))], (J1, G1, R, Y), 0, 0) (fun _ => rfl) ?_
        refine yi_D_callv rfl (p_advance_z hW9 hf9 hA9) ?_
        rintro _ ⟨I25, L26, rfl, hGa27, hf28, hA29⟩
        rw [sp_nx_lt (cs_lt hW9.2.1 hA9.2.1 (by omega))] at hA29
        have hA29 : cs_A I25 L26 K te (a1 + 1) := hA29
        have hW30 := cs_W_t hW9 (cs_G_F hGa27)
        have hF31 := cs_F_t hF9 (cs_G_F hGa27)
        have hcc32 := cc_G hcc9 hGa27
        show yi_D zi_Ms d zi_m255 j35 (69, [(5, .inl (K a1)), (4, .inl y4), (3, .inl 1000), (0, .inr (.inr (some 11))), (1, .inl 0), (2, .inl (dp : Int))], [], (I25, L26, R, Y), 0, 0) _
        refine yi_D_run 3 (72, [(5, .inl (K a1)), (4, .inl y4), (3, .inl 1000), (0, .inr (.inr (some 11))), (1, .inl 0), (2, .inl (dp : Int))], [.inl 1, .inl 0, .inr (.inr (some 11))], (I25, L26, R, Y), 0, 0) (fun _ => rfl) ?_
        refine yi_D_iadd rfl (1) (by decide) ?_
        refine yi_D_run 1 (74, [(5, .inl (K a1)), (4, .inl y4), (3, .inl 1000), (0, .inr (.inr (some 11))), (1, .inl 0), (2, .inl (dp : Int))], [.inl (dp : Int), .inl 1, .inr (.inr (some 11))], (I25, L26, R, Y), 0, 0) (fun _ => rfl) ?_
        have hst33 : sp_R K P V (8, a, dp, sk, ld, nm, cs) (.inl (9, a1 + 1, dp, (100 + 8 * (K a1).toNat + 0) :: sk, ld, nm, cs1)) := sp_R_s hR9 ((sp_st13 (l := 0) (by omega)).trans (if_pos (by omega)))
        refine yi_D_callv rfl (hRE dp ((100 + 8 * (K a1).toNat + 0) :: sk) cs1 hW30 hf28 hA29 (by omega) hcc32 (by omega)) ?_
        rintro _ ⟨I34, L35, rfl, hFr36, (⟨a37, cs38, hR39, lt40, hf41, hA42, hcc43, ll44⟩ | ⟨f45, hR46, hz47, he48⟩)⟩
        · have hW49 := cs_W_t hW30 hFr36
          have hF50 := cs_F_t hF31 hFr36
          have hF51 : ∀ p k, (p ≠ 11 ∧ p ≠ 19) → I34 p k = I25 p k := fun p k h => hFr36.1 p k h.1 h.2
          have hlehA42 := hA42.2.1
          have hclhcc43 := cc_le hcc43
          have hR52 := sp_R_s (sp_R_t hst33 hR39) (sp_st13b (l := 0) (by omega) (by omega))
          show yi_D zi_Ms d zi_m255 j35 (77, [(5, .inl (K a1)), (4, .inl y4), (3, .inl 1000), (0, .inr (.inr (some 11))), (1, .inl 0), (2, .inl (dp : Int))], [], (I34, L35, R, Y), 0, 0) _
          refine yi_D_run 2 (80, [(5, .inl (K a1)), (4, .inl y4), (3, .inl 1000), (0, .inr (.inr (some 11))), (1, .inl 0), (2, .inl (dp : Int))], [.inl (K a1), .inr (.inr (some 11))], (I34, L35, R, Y), 0, 0) (fun _ => rfl) ?_
          refine yi_D_callv rfl (p_emitC hW49 hf41 (cc_u hcc43) (by omega)) ?_
          rintro _ ⟨I53, rfl, hE54⟩
          have hE55 := cc_E_E hE54
          have hsghcc56 := trP_sg (k := K a1) (by omega)
          have hcc56 := cc_push hcc43 hE54 (x := (sp_sg (K a1).toNat, 0)) hsghcc56.1 (isnm_n hsghcc56.2.1) hsghcc56.2.2
          have hlnhcc56 := List.length_append (as := cs38) (bs := [((sp_sg (K a1).toNat : Int), (0 : Int))])
          rw [List.length_singleton] at hlnhcc56
          have hW57 := cs_W_t hW49 (cs_E_F (L := L35) hE55)
          have hF58 := cs_F_t hF50 (cs_E_F hE55)
          have hf59 : I53 11 11 = 0 := (hE55 11 11 (by omega) (by omega)).trans hf41
          have hA60 := cs_A_e hA42 hE55
          show yi_D zi_Ms d zi_m255 j35 (83, [(5, .inl (K a1)), (4, .inl y4), (3, .inl 1000), (0, .inr (.inr (some 11))), (1, .inl 0), (2, .inl (dp : Int))], [], (I53, L35, R, Y), 0, 0) _
          refine yi_D_iinc [(4, .inl (y4 + 1)), (5, .inl (K a1)), (3, .inl 1000), (0, .inr (.inr (some 11))), (1, .inl 0), (2, .inl (dp : Int))] rfl rfl rfl (by rw [show yi_w (y4 + 1) = y4 + 1 from (yi_wn (by omega) (by omega)).trans (by omega)]; rfl) ?_
          refine yi_D_run 1 (35, [(4, .inl (y4 + 1)), (5, .inl (K a1)), (3, .inl 1000), (0, .inr (.inr (some 11))), (1, .inl 0), (2, .inl (dp : Int))], [], (I53, L35, R, Y), 0, 0) (fun _ => rfl) ?_
          refine yi_D_al (al := [(4, .inl (y4 + 1)), (3, .inl 1000), (0, .inr (.inr (some 11))), (1, .inl 0), (2, .inl (dp : Int)), (5, .inl (K a1))]) (show ([4, 3, 0, 1, 2, 5] : List Nat).Nodup by decide) (show ([4, 5, 3, 0, 1, 2] : List Nat).Nodup by decide) (yi_mc (List.mem_of_getElem? (i := 0) rfl) (yi_mc (List.mem_of_getElem? (i := 5) rfl) (yi_mc (List.mem_of_getElem? (i := 1) rfl) (yi_mc (List.mem_of_getElem? (i := 2) rfl) (yi_mc (List.mem_of_getElem? (i := 3) rfl) (yi_mc (List.mem_of_getElem? (i := 4) rfl) yi_mn)))))) ?_
          exact yi_D_mono (ih35 (by omega) (y4 + 1) (K a1) I53 L35 a37 (cs38 ++ [(sp_sg (K a1).toNat, 0)]) (by omega) (by omega) hF58 hf59 hA60 hR52 hcc56 (by omega)) (by omega)
        · have hW61 := cs_W_t hW30 hFr36
          have hF62 := cs_F_t hF31 hFr36
          have hF63 : ∀ p k, (p ≠ 11 ∧ p ≠ 19) → I34 p k = I25 p k := fun p k h => hFr36.1 p k h.1 h.2
          have hn64 : ¬ I34 11 11 = 0 := by rw [he48]; exact hz47
          have hx65 : sp_R K P V (8, a, dp, sk, ld, nm, cs) (.inr f45) := sp_R_t hst33 hR46
          show yi_D zi_Ms d zi_m255 j35 (77, [(5, .inl (K a1)), (4, .inl y4), (3, .inl 1000), (0, .inr (.inr (some 11))), (1, .inl 0), (2, .inl (dp : Int))], [], (I34, L35, R, Y), 0, 0) _
          refine yi_D_run 2 (80, [(5, .inl (K a1)), (4, .inl y4), (3, .inl 1000), (0, .inr (.inr (some 11))), (1, .inl 0), (2, .inl (dp : Int))], [.inl (K a1), .inr (.inr (some 11))], (I34, L35, R, Y), 0, 0) (fun _ => rfl) ?_
          refine yi_D_callv rfl (p_emit hW61) ?_
          rintro _ ⟨I66, rfl, hE67⟩
          have hW68 := cs_W_t hW61 (cs_E_F (L := L35) hE67)
          have hF69 := cs_F_t hF62 (cs_E_F hE67)
          have hf70 : ¬ I66 11 11 = 0 := by rw [hE67 11 11 (by omega) (by omega)]; exact hn64
          have he71 := (hE67 11 11 (by omega) (by omega)).trans he48
          show yi_D zi_Ms d zi_m255 j35 (83, [(5, .inl (K a1)), (4, .inl y4), (3, .inl 1000), (0, .inr (.inr (some 11))), (1, .inl 0), (2, .inl (dp : Int))], [], (I66, L35, R, Y), 0, 0) _
          refine yi_D_iinc [(4, .inl (yi_w (y4 + 1))), (5, .inl (K a1)), (3, .inl 1000), (0, .inr (.inr (some 11))), (1, .inl 0), (2, .inl (dp : Int))] rfl rfl rfl rfl ?_
          refine yi_D_run 1 (35, [(4, .inl (yi_w (y4 + 1))), (5, .inl (K a1)), (3, .inl 1000), (0, .inr (.inr (some 11))), (1, .inl 0), (2, .inl (dp : Int))], [], (I66, L35, R, Y), 0, 0) (fun _ => rfl) ?_
          refine yi_D_al (al := [(5, .inl (K a1)), (4, .inl (yi_w (y4 + 1))), (3, .inl 1000), (0, .inr (.inr (some 11))), (1, .inl 0), (2, .inl (dp : Int))]) (show ([5, 4, 3, 0, 1, 2] : List Nat).Nodup by decide) (show ([4, 5, 3, 0, 1, 2] : List Nat).Nodup by decide) (yi_mc (List.mem_of_getElem? (i := 1) rfl) (yi_mc (List.mem_of_getElem? (i := 0) rfl) (yi_mc (List.mem_of_getElem? (i := 2) rfl) (yi_mc (List.mem_of_getElem? (i := 3) rfl) (yi_mc (List.mem_of_getElem? (i := 4) rfl) (yi_mc (List.mem_of_getElem? (i := 5) rfl) yi_mn)))))) ?_
          exact yi_D_mono (jn35f (K a1) (yi_w (y4 + 1)) 1000 _ _ _ hF69 he71 hz47 hx65 ) (by omega)
      · refine yi_D_if2 true rfl (yi_ne_t h24) ?_
        refine yi_D_retv rfl ?_
        have hstd := sp_R_s hR9 ((sp_st13 (l := 0) (by omega)).trans (if_neg (by omega)))
        exact ⟨_, _, rfl, hF9, Or.inl ⟨_, _, hstd, by omega, hf9, hA9, hcc9, by omega⟩⟩
    refine yi_D_al (al := [(4, .inl 0), (3, .inl 1000), (0, .inr (.inr (some 11))), (1, .inl 0), (2, .inl (dp : Int)), (5, .inl 0)]) (show ([4, 3, 0, 1, 2, 5] : List Nat).Nodup by decide) (show ([4, 3, 0, 1, 2] : List Nat).Nodup by decide) (yi_mc (List.mem_of_getElem? (i := 0) rfl) (yi_mc (List.mem_of_getElem? (i := 1) rfl) (yi_mc (List.mem_of_getElem? (i := 2) rfl) (yi_mc (List.mem_of_getElem? (i := 3) rfl) (yi_mc (List.mem_of_getElem? (i := 4) rfl) yi_mn))))) ?_
    exact pt35 k (Nat.le_refl _) 0 0 I4 L5 a7 cs8 (by omega) (by omega) hF20 hf11 hA12 hR22 hcc13 (by omega)
  · have hW72 := cs_W_t hW hFr6
    have hF73 := hFr6
    have hF74 : ∀ p k, (p ≠ 11 ∧ p ≠ 19) → I4 p k = I p k := fun p k h => hFr6.1 p k h.1 h.2
    have hn75 : ¬ I4 11 11 = 0 := by rw [he18]; exact hz17
    have hx76 : sp_R K P V (8, a, dp, sk, ld, nm, cs) (.inr f15) := sp_R_t hst3 hR16
    show yi_D zi_Ms d zi_m255 k (19, [(0, .inr (.inr (some 11))), (1, .inl 0), (2, .inl (dp : Int))], [], (I4, L5, R, Y), 0, 0) _
    refine yi_D_run 2 (21, [(0, .inr (.inr (some 11))), (1, .inl 0), (2, .inl (dp : Int))], [.inl 1, .inl 0], (I4, L5, R, Y), 0, 0) (fun _ => rfl) ?_
    refine yi_D_if2 true rfl (by decide) ?_
    refine yi_D_run 4 (35, [(4, .inl 0), (3, .inl 1000), (0, .inr (.inr (some 11))), (1, .inl 0), (2, .inl (dp : Int))], [], (I4, L5, R, Y), 0, 0) (fun _ => rfl) ?_
    refine yi_D_al (al := [(5, .inl 0), (4, .inl 0), (3, .inl 1000), (0, .inr (.inr (some 11))), (1, .inl 0), (2, .inl (dp : Int))]) (show ([5, 4, 3, 0, 1, 2] : List Nat).Nodup by decide) (show ([4, 3, 0, 1, 2] : List Nat).Nodup by decide) (yi_mc (List.mem_of_getElem? (i := 1) rfl) (yi_mc (List.mem_of_getElem? (i := 2) rfl) (yi_mc (List.mem_of_getElem? (i := 3) rfl) (yi_mc (List.mem_of_getElem? (i := 4) rfl) (yi_mc (List.mem_of_getElem? (i := 5) rfl) yi_mn))))) ?_
    exact yi_D_mono (jn35f 0 0 1000 _ _ _ hF73 he18 hz17 hx76 ) (by omega)
theorem p_readExprC_s1 {d : Nat} {I L : Nat → Nat → Int} {R : Nat → Nat → Option Nat} {Y : (Nat → Nat) × (Nat → Nat) × Nat} (hRE : cs_REC d 2) {K P V : Nat → Int} {te q a : Nat} {ld : Nat → Int} {nm : Int → Int} (hW : cs_W I L R Y K P V te q ld nm) (hf : I 11 11 = 0) (hA : cs_A I L K te a) (dp : Nat) (sk : List Nat) (cs : List (Int × Int)) (hd : dp ≤ 5) {u0 : Nat} {cb : List (Int × Int)} {fx : Nat → Int} {b0 vg : Int} (hcc : cc_S trP u0 cb fx b0 vg false I cs) (hu : u0 + cs.length + te ≤ 1001 + cb.length + a) : yi_P zi_Ms (d + 1) 255 [.inr (.inr (some 11)), .inl 1, .inl (dp : Int)] (I, L, R, Y) (cs_QRC trP u0 cb fx b0 vg I L R Y K P V te (9, a, dp, sk, ld, nm, cs) 13 a dp sk ld nm cs) := by
  refine yi_P_s (M := zi_m255) rfl (fun k => ?_)
  have hc0 := cc_le hcc
  have hle0 := hA.2.1
  have hte0 := hW.2.1.1
  have jn89f : ∀ (y5 : Int) (y4 : Int) (y3 : Int) (J G : Nat → Nat → Int) (f : Int), cs_F I L J G → J 11 11 = f → ¬ f = 0 → sp_R K P V (9, a, dp, sk, ld, nm, cs) (.inr f) → yi_D zi_Ms d zi_m255 k (89, [(5, .inl y5), (4, .inl y4), (3, .inl y3), (0, .inr (.inr (some 11))), (1, .inl 1), (2, .inl (dp : Int))], [], (J, G, R, Y), 0, 0) (cs_QRC trP u0 cb fx b0 vg I L R Y K P V te (9, a, dp, sk, ld, nm, cs) 13 a dp sk ld nm cs) := by
    intro y5 y4 y3 J G f jF je jn jsp 
    have jW := cs_W_t hW jF
    have jf : ¬ J 11 11 = 0 := by rw [je]; exact jn
    have jF1 : ∀ p k, (p ≠ 11 ∧ p ≠ 19) → J p k = I p k := fun p k h => jF.1 p k h.1 h.2
    have jF2 := jF.2
    refine yi_D_retv rfl ?_
    exact ⟨_, _, rfl, jF, Or.inr ⟨_, jsp, jn, je⟩⟩
  have jn35f : ∀ (y5 : Int) (y4 : Int) (y3 : Int) (J G : Nat → Nat → Int) (f : Int), cs_F I L J G → J 11 11 = f → ¬ f = 0 → sp_R K P V (9, a, dp, sk, ld, nm, cs) (.inr f) → yi_D zi_Ms d zi_m255 k (35, [(5, .inl y5), (4, .inl y4), (3, .inl y3), (0, .inr (.inr (some 11))), (1, .inl 1), (2, .inl (dp : Int))], [], (J, G, R, Y), 0, 0) (cs_QRC trP u0 cb fx b0 vg I L R Y K P V te (9, a, dp, sk, ld, nm, cs) 13 a dp sk ld nm cs) := by
    intro y5 y4 y3 J G f jF je jn jsp 
    have jW := cs_W_t hW jF
    have jf : ¬ J 11 11 = 0 := by rw [je]; exact jn
    have jF1 : ∀ p k, (p ≠ 11 ∧ p ≠ 19) → J p k = I p k := fun p k h => jF.1 p k h.1 h.2
    have jF2 := jF.2
    refine yi_D_run 2 (38, [(5, .inl y5), (4, .inl y4), (3, .inl y3), (0, .inr (.inr (some 11))), (1, .inl 1), (2, .inl (dp : Int))], [.inl y3, .inl y4], (J, G, R, Y), 0, 0) (fun _ => rfl) ?_
    by_cases h1 : y3 ≤ y4
    · refine yi_D_if2 true rfl (yi_ge_t h1) ?_
      exact yi_D_mono (jn89f y5 y4 y3 _ _ _ jF je jn jsp ) (by omega)
    · refine yi_D_if2 false rfl (yi_ge_f h1) ?_
      refine yi_D_run 1 (42, [(5, .inl y5), (4, .inl y4), (3, .inl y3), (0, .inr (.inr (some 11))), (1, .inl 1), (2, .inl (dp : Int))], [.inr (.inr (some 11))], (J, G, R, Y), 0, 0) (fun _ => rfl) ?_
      refine yi_D_gi (v := J 11 11) rfl rfl rfl rfl (fun _ => ?_)
      have h2 : ¬ ((J 11 11) = 0) := by omega
      refine yi_D_if1 true rfl (yi_ne_t h2) ?_
      exact yi_D_mono (jn89f y5 y4 y3 _ _ _ jF je jn jsp ) (by omega)
  show yi_D zi_Ms d zi_m255 k (0, [(0, .inr (.inr (some 11))), (1, .inl 1), (2, .inl (dp : Int))], [], (I, L, R, Y), 0, 0) _
  refine yi_D_run 2 (2, [(0, .inr (.inr (some 11))), (1, .inl 1), (2, .inl (dp : Int))], [.inl 4, .inl 1], (I, L, R, Y), 0, 0) (fun _ => rfl) ?_
  refine yi_D_if2 true rfl (by decide) ?_
  refine yi_D_run 3 (14, [(0, .inr (.inr (some 11))), (1, .inl 1), (2, .inl (dp : Int))], [.inl 1, .inl 1, .inr (.inr (some 11))], (I, L, R, Y), 0, 0) (fun _ => rfl) ?_
  refine yi_D_iadd rfl (2) (by decide) ?_
  refine yi_D_run 1 (16, [(0, .inr (.inr (some 11))), (1, .inl 1), (2, .inl (dp : Int))], [.inl (dp : Int), .inl 2, .inr (.inr (some 11))], (I, L, R, Y), 0, 0) (fun _ => rfl) ?_
  have hst3 : sp_R K P V (9, a, dp, sk, ld, nm, cs) (.inl (10, a, dp, 31 :: sk, ld, nm, cs)) := sp_R_1 rfl
  refine yi_D_callv rfl (hRE dp (31 :: sk) cs hW hf hA (by omega) hcc (by omega)) ?_
  rintro _ ⟨I4, L5, rfl, hFr6, (⟨a7, cs8, hR9, lt10, hf11, hA12, hcc13, ll14⟩ | ⟨f15, hR16, hz17, he18⟩)⟩
  · have hW19 := cs_W_t hW hFr6
    have hF20 := hFr6
    have hF21 : ∀ p k, (p ≠ 11 ∧ p ≠ 19) → I4 p k = I p k := fun p k h => hFr6.1 p k h.1 h.2
    have hlehA12 := hA12.2.1
    have hclhcc13 := cc_le hcc13
    have hR22 := sp_R_t hst3 hR9
    show yi_D zi_Ms d zi_m255 k (19, [(0, .inr (.inr (some 11))), (1, .inl 1), (2, .inl (dp : Int))], [], (I4, L5, R, Y), 0, 0) _
    refine yi_D_run 2 (21, [(0, .inr (.inr (some 11))), (1, .inl 1), (2, .inl (dp : Int))], [.inl 1, .inl 1], (I4, L5, R, Y), 0, 0) (fun _ => rfl) ?_
    refine yi_D_if2 false rfl (by decide) ?_
    refine yi_D_run 7 (38, [(4, .inl 0), (3, .inl 1), (0, .inr (.inr (some 11))), (1, .inl 1), (2, .inl (dp : Int))], [.inl 1, .inl 0], (I4, L5, R, Y), 0, 0) (fun _ => rfl) ?_
    refine yi_D_if2 false rfl (by decide) ?_
    refine yi_D_run 1 (42, [(4, .inl 0), (3, .inl 1), (0, .inr (.inr (some 11))), (1, .inl 1), (2, .inl (dp : Int))], [.inr (.inr (some 11))], (I4, L5, R, Y), 0, 0) (fun _ => rfl) ?_
    refine yi_D_gi (v := 0) rfl rfl rfl hf11 (fun _ => ?_)
    refine yi_D_if1 false rfl (by decide) ?_
    refine yi_D_run 1 (49, [(4, .inl 0), (3, .inl 1), (0, .inr (.inr (some 11))), (1, .inl 1), (2, .inl (dp : Int))], [.inr (.inr (some 11))], (I4, L5, R, Y), 0, 0) (fun _ => rfl) ?_
    refine yi_D_gi (v := K a7) rfl rfl rfl hA12.2.2.1 (fun _ => ?_)
    refine yi_D_calls rfl (p_levelOf) ?_
    rintro _ rfl
    show yi_D zi_Ms d zi_m255 k (55, [(4, .inl 0), (3, .inl 1), (0, .inr (.inr (some 11))), (1, .inl 1), (2, .inl (dp : Int))], [.inl (sp_lv (K a7))], (I4, L5, R, Y), 0, 0) _
    refine yi_D_run 1 (56, [(4, .inl 0), (3, .inl 1), (0, .inr (.inr (some 11))), (1, .inl 1), (2, .inl (dp : Int))], [.inl 1, .inl (sp_lv (K a7))], (I4, L5, R, Y), 0, 0) (fun _ => rfl) ?_
    have hlva7 := sp_lv_i (k := K a7) (l := 1) (by omega)
    have hlna7 := sp_lev_n (k := K a7)
    by_cases h23 : (sp_lv (K a7)) = 1
    · refine yi_D_if2 false rfl (yi_ne_f h23) ?_
      refine yi_D_run 1 (60, [(4, .inl 0), (3, .inl 1), (0, .inr (.inr (some 11))), (1, .inl 1), (2, .inl (dp : Int))], [.inr (.inr (some 11))], (I4, L5, R, Y), 0, 0) (fun _ => rfl) ?_
      refine yi_D_gi (v := K a7) rfl rfl rfl hA12.2.2.1 (fun _ => ?_)
      refine yi_D_run 2 (66, [(5, .inl (K a7)), (4, .inl 0), (3, .inl 1), (0, .inr (.inr (some 11))), (1, .inl 1), (2, .inl (dp : Int))], [.inr (.inr (some 11))], (I4, L5, R, Y), 0, 0) (fun _ => rfl) ?_
      refine yi_D_callv rfl (p_advance_z hW19 hf11 hA12) ?_
      rintro _ ⟨I24, L25, rfl, hGa26, hf27, hA28⟩
      rw [sp_nx_lt (cs_lt hW19.2.1 hA12.2.1 (by omega))] at hA28
      have hA28 : cs_A I24 L25 K te (a7 + 1) := hA28
      have hW29 := cs_W_t hW19 (cs_G_F hGa26)
      have hF30 := cs_F_t hF20 (cs_G_F hGa26)
      have hcc31 := cc_G hcc13 hGa26
      show yi_D zi_Ms d zi_m255 k (69, [(5, .inl (K a7)), (4, .inl 0), (3, .inl 1), (0, .inr (.inr (some 11))), (1, .inl 1), (2, .inl (dp : Int))], [], (I24, L25, R, Y), 0, 0) _
      refine yi_D_run 3 (72, [(5, .inl (K a7)), (4, .inl 0), (3, .inl 1), (0, .inr (.inr (some 11))), (1, .inl 1), (2, .inl (dp : Int))], [.inl 1, .inl 1, .inr (.inr (some 11))], (I24, L25, R, Y), 0, 0) (fun _ => rfl) ?_
      refine yi_D_iadd rfl (2) (by decide) ?_
      refine yi_D_run 1 (74, [(5, .inl (K a7)), (4, .inl 0), (3, .inl 1), (0, .inr (.inr (some 11))), (1, .inl 1), (2, .inl (dp : Int))], [.inl (dp : Int), .inl 2, .inr (.inr (some 11))], (I24, L25, R, Y), 0, 0) (fun _ => rfl) ?_
      have hst32 : sp_R K P V (9, a, dp, sk, ld, nm, cs) (.inl (10, a7 + 1, dp, (100 + 8 * (K a7).toNat + 1) :: sk, ld, nm, cs8)) := sp_R_s hR22 ((sp_st13 (l := 1) (by omega)).trans (if_pos (by omega)))
      refine yi_D_callv rfl (hRE dp ((100 + 8 * (K a7).toNat + 1) :: sk) cs8 hW29 hf27 hA28 (by omega) hcc31 (by omega)) ?_
      rintro _ ⟨I33, L34, rfl, hFr35, (⟨a36, cs37, hR38, lt39, hf40, hA41, hcc42, ll43⟩ | ⟨f44, hR45, hz46, he47⟩)⟩
      · have hW48 := cs_W_t hW29 hFr35
        have hF49 := cs_F_t hF30 hFr35
        have hF50 : ∀ p k, (p ≠ 11 ∧ p ≠ 19) → I33 p k = I24 p k := fun p k h => hFr35.1 p k h.1 h.2
        have hlehA41 := hA41.2.1
        have hclhcc42 := cc_le hcc42
        have hR51 := sp_R_s (sp_R_t hst32 hR38) sp_st13c
        show yi_D zi_Ms d zi_m255 k (77, [(5, .inl (K a7)), (4, .inl 0), (3, .inl 1), (0, .inr (.inr (some 11))), (1, .inl 1), (2, .inl (dp : Int))], [], (I33, L34, R, Y), 0, 0) _
        refine yi_D_run 2 (80, [(5, .inl (K a7)), (4, .inl 0), (3, .inl 1), (0, .inr (.inr (some 11))), (1, .inl 1), (2, .inl (dp : Int))], [.inl (K a7), .inr (.inr (some 11))], (I33, L34, R, Y), 0, 0) (fun _ => rfl) ?_
        refine yi_D_callv rfl (p_emitC hW48 hf40 (cc_u hcc42) (by omega)) ?_
        rintro _ ⟨I52, rfl, hE53⟩
        have hE54 := cc_E_E hE53
        have hsghcc55 := trP_sg (k := K a7) (by omega)
        have hcc55 := cc_push hcc42 hE53 (x := (sp_sg (K a7).toNat, 0)) hsghcc55.1 (isnm_n hsghcc55.2.1) hsghcc55.2.2
        have hlnhcc55 := List.length_append (as := cs37) (bs := [((sp_sg (K a7).toNat : Int), (0 : Int))])
        rw [List.length_singleton] at hlnhcc55
        have hW56 := cs_W_t hW48 (cs_E_F (L := L34) hE54)
        have hF57 := cs_F_t hF49 (cs_E_F hE54)
        have hf58 : I52 11 11 = 0 := (hE54 11 11 (by omega) (by omega)).trans hf40
        have hA59 := cs_A_e hA41 hE54
        show yi_D zi_Ms d zi_m255 k (83, [(5, .inl (K a7)), (4, .inl 0), (3, .inl 1), (0, .inr (.inr (some 11))), (1, .inl 1), (2, .inl (dp : Int))], [], (I52, L34, R, Y), 0, 0) _
        refine yi_D_iinc [(4, .inl 1), (5, .inl (K a7)), (3, .inl 1), (0, .inr (.inr (some 11))), (1, .inl 1), (2, .inl (dp : Int))] rfl rfl rfl (by rw [show yi_w (0 + 1) = 1 from (yi_wn (by omega) (by omega)).trans (by omega)]; rfl) ?_
        refine yi_D_run 3 (38, [(4, .inl 1), (5, .inl (K a7)), (3, .inl 1), (0, .inr (.inr (some 11))), (1, .inl 1), (2, .inl (dp : Int))], [.inl 1, .inl 1], (I52, L34, R, Y), 0, 0) (fun _ => rfl) ?_
        refine yi_D_if2 true rfl (by decide) ?_
        refine yi_D_retv rfl ?_
        exact ⟨_, _, rfl, hF57, Or.inl ⟨_, _, hR51, by omega, hf58, hA59, hcc55, by omega⟩⟩
      · have hW60 := cs_W_t hW29 hFr35
        have hF61 := cs_F_t hF30 hFr35
        have hF62 : ∀ p k, (p ≠ 11 ∧ p ≠ 19) → I33 p k = I24 p k := fun p k h => hFr35.1 p k h.1 h.2
        have hn63 : ¬ I33 11 11 = 0 := by rw [he47]; exact hz46
        have hx64 : sp_R K P V (9, a, dp, sk, ld, nm, cs) (.inr f44) := sp_R_t hst32 hR45
        show yi_D zi_Ms d zi_m255 k (77, [(5, .inl (K a7)), (4, .inl 0), (3, .inl 1), (0, .inr (.inr (some 11))), (1, .inl 1), (2, .inl (dp : Int))], [], (I33, L34, R, Y), 0, 0) _
        refine yi_D_run 2 (80, [(5, .inl (K a7)), (4, .inl 0), (3, .inl 1), (0, .inr (.inr (some 11))), (1, .inl 1), (2, .inl (dp : Int))], [.inl (K a7), .inr (.inr (some 11))], (I33, L34, R, Y), 0, 0) (fun _ => rfl) ?_
        refine yi_D_callv rfl (p_emit hW60) ?_
        rintro _ ⟨I65, rfl, hE66⟩
        have hW67 := cs_W_t hW60 (cs_E_F (L := L34) hE66)
        have hF68 := cs_F_t hF61 (cs_E_F hE66)
        have hf69 : ¬ I65 11 11 = 0 := by rw [hE66 11 11 (by omega) (by omega)]; exact hn63
        have he70 := (hE66 11 11 (by omega) (by omega)).trans he47
        show yi_D zi_Ms d zi_m255 k (83, [(5, .inl (K a7)), (4, .inl 0), (3, .inl 1), (0, .inr (.inr (some 11))), (1, .inl 1), (2, .inl (dp : Int))], [], (I65, L34, R, Y), 0, 0) _
        refine yi_D_iinc [(4, .inl 1), (5, .inl (K a7)), (3, .inl 1), (0, .inr (.inr (some 11))), (1, .inl 1), (2, .inl (dp : Int))] rfl rfl rfl (by rw [show yi_w (0 + 1) = 1 from (yi_wn (by omega) (by omega)).trans (by omega)]; rfl) ?_
        refine yi_D_run 1 (35, [(4, .inl 1), (5, .inl (K a7)), (3, .inl 1), (0, .inr (.inr (some 11))), (1, .inl 1), (2, .inl (dp : Int))], [], (I65, L34, R, Y), 0, 0) (fun _ => rfl) ?_
        refine yi_D_al (al := [(5, .inl (K a7)), (4, .inl 1), (3, .inl 1), (0, .inr (.inr (some 11))), (1, .inl 1), (2, .inl (dp : Int))]) (show ([5, 4, 3, 0, 1, 2] : List Nat).Nodup by decide) (show ([4, 5, 3, 0, 1, 2] : List Nat).Nodup by decide) (yi_mc (List.mem_of_getElem? (i := 1) rfl) (yi_mc (List.mem_of_getElem? (i := 0) rfl) (yi_mc (List.mem_of_getElem? (i := 2) rfl) (yi_mc (List.mem_of_getElem? (i := 3) rfl) (yi_mc (List.mem_of_getElem? (i := 4) rfl) (yi_mc (List.mem_of_getElem? (i := 5) rfl) yi_mn)))))) ?_
        exact yi_D_mono (jn35f (K a7) 1 1 _ _ _ hF68 he70 hz46 hx64 ) (by omega)
    · refine yi_D_if2 true rfl (yi_ne_t h23) ?_
      refine yi_D_retv rfl ?_
      have hstd := sp_R_s hR22 ((sp_st13 (l := 1) (by omega)).trans (if_neg (by omega)))
      exact ⟨_, _, rfl, hF20, Or.inl ⟨_, _, hstd, by omega, hf11, hA12, hcc13, by omega⟩⟩
  · have hW71 := cs_W_t hW hFr6
    have hF72 := hFr6
    have hF73 : ∀ p k, (p ≠ 11 ∧ p ≠ 19) → I4 p k = I p k := fun p k h => hFr6.1 p k h.1 h.2
    have hn74 : ¬ I4 11 11 = 0 := by rw [he18]; exact hz17
    have hx75 : sp_R K P V (9, a, dp, sk, ld, nm, cs) (.inr f15) := sp_R_t hst3 hR16
    show yi_D zi_Ms d zi_m255 k (19, [(0, .inr (.inr (some 11))), (1, .inl 1), (2, .inl (dp : Int))], [], (I4, L5, R, Y), 0, 0) _
    refine yi_D_run 2 (21, [(0, .inr (.inr (some 11))), (1, .inl 1), (2, .inl (dp : Int))], [.inl 1, .inl 1], (I4, L5, R, Y), 0, 0) (fun _ => rfl) ?_
    refine yi_D_if2 false rfl (by decide) ?_
    refine yi_D_run 5 (35, [(4, .inl 0), (3, .inl 1), (0, .inr (.inr (some 11))), (1, .inl 1), (2, .inl (dp : Int))], [], (I4, L5, R, Y), 0, 0) (fun _ => rfl) ?_
    refine yi_D_al (al := [(5, .inl 0), (4, .inl 0), (3, .inl 1), (0, .inr (.inr (some 11))), (1, .inl 1), (2, .inl (dp : Int))]) (show ([5, 4, 3, 0, 1, 2] : List Nat).Nodup by decide) (show ([4, 3, 0, 1, 2] : List Nat).Nodup by decide) (yi_mc (List.mem_of_getElem? (i := 1) rfl) (yi_mc (List.mem_of_getElem? (i := 2) rfl) (yi_mc (List.mem_of_getElem? (i := 3) rfl) (yi_mc (List.mem_of_getElem? (i := 4) rfl) (yi_mc (List.mem_of_getElem? (i := 5) rfl) yi_mn))))) ?_
    exact yi_D_mono (jn35f 0 0 1 _ _ _ hF72 he18 hz17 hx75 ) (by omega)
theorem p_readExprC_s2 {d : Nat} {I L : Nat → Nat → Int} {R : Nat → Nat → Option Nat} {Y : (Nat → Nat) × (Nat → Nat) × Nat} (hRE : cs_REC d 3) {K P V : Nat → Int} {te q a : Nat} {ld : Nat → Int} {nm : Int → Int} (hW : cs_W I L R Y K P V te q ld nm) (hf : I 11 11 = 0) (hA : cs_A I L K te a) (dp : Nat) (sk : List Nat) (cs : List (Int × Int)) (hd : dp ≤ 5) {u0 : Nat} {cb : List (Int × Int)} {fx : Nat → Int} {b0 vg : Int} (hcc : cc_S trP u0 cb fx b0 vg false I cs) (hu : u0 + cs.length + te ≤ 1001 + cb.length + a) : yi_P zi_Ms (d + 1) 255 [.inr (.inr (some 11)), .inl 2, .inl (dp : Int)] (I, L, R, Y) (cs_QRC trP u0 cb fx b0 vg I L R Y K P V te (10, a, dp, sk, ld, nm, cs) 13 a dp sk ld nm cs) := by
  refine yi_P_s (M := zi_m255) rfl (fun k => ?_)
  have hc0 := cc_le hcc
  have hle0 := hA.2.1
  have hte0 := hW.2.1.1
  have jn89f : ∀ (y5 : Int) (y4 : Int) (y3 : Int) (J G : Nat → Nat → Int) (f : Int), cs_F I L J G → J 11 11 = f → ¬ f = 0 → sp_R K P V (10, a, dp, sk, ld, nm, cs) (.inr f) → yi_D zi_Ms d zi_m255 k (89, [(5, .inl y5), (4, .inl y4), (3, .inl y3), (0, .inr (.inr (some 11))), (1, .inl 2), (2, .inl (dp : Int))], [], (J, G, R, Y), 0, 0) (cs_QRC trP u0 cb fx b0 vg I L R Y K P V te (10, a, dp, sk, ld, nm, cs) 13 a dp sk ld nm cs) := by
    intro y5 y4 y3 J G f jF je jn jsp 
    have jW := cs_W_t hW jF
    have jf : ¬ J 11 11 = 0 := by rw [je]; exact jn
    have jF1 : ∀ p k, (p ≠ 11 ∧ p ≠ 19) → J p k = I p k := fun p k h => jF.1 p k h.1 h.2
    have jF2 := jF.2
    refine yi_D_retv rfl ?_
    exact ⟨_, _, rfl, jF, Or.inr ⟨_, jsp, jn, je⟩⟩
  have jn35f : ∀ (y5 : Int) (y4 : Int) (y3 : Int) (J G : Nat → Nat → Int) (f : Int), cs_F I L J G → J 11 11 = f → ¬ f = 0 → sp_R K P V (10, a, dp, sk, ld, nm, cs) (.inr f) → yi_D zi_Ms d zi_m255 k (35, [(5, .inl y5), (4, .inl y4), (3, .inl y3), (0, .inr (.inr (some 11))), (1, .inl 2), (2, .inl (dp : Int))], [], (J, G, R, Y), 0, 0) (cs_QRC trP u0 cb fx b0 vg I L R Y K P V te (10, a, dp, sk, ld, nm, cs) 13 a dp sk ld nm cs) := by
    intro y5 y4 y3 J G f jF je jn jsp 
    have jW := cs_W_t hW jF
    have jf : ¬ J 11 11 = 0 := by rw [je]; exact jn
    have jF1 : ∀ p k, (p ≠ 11 ∧ p ≠ 19) → J p k = I p k := fun p k h => jF.1 p k h.1 h.2
    have jF2 := jF.2
    refine yi_D_run 2 (38, [(5, .inl y5), (4, .inl y4), (3, .inl y3), (0, .inr (.inr (some 11))), (1, .inl 2), (2, .inl (dp : Int))], [.inl y3, .inl y4], (J, G, R, Y), 0, 0) (fun _ => rfl) ?_
    by_cases h1 : y3 ≤ y4
    · refine yi_D_if2 true rfl (yi_ge_t h1) ?_
      exact yi_D_mono (jn89f y5 y4 y3 _ _ _ jF je jn jsp ) (by omega)
    · refine yi_D_if2 false rfl (yi_ge_f h1) ?_
      refine yi_D_run 1 (42, [(5, .inl y5), (4, .inl y4), (3, .inl y3), (0, .inr (.inr (some 11))), (1, .inl 2), (2, .inl (dp : Int))], [.inr (.inr (some 11))], (J, G, R, Y), 0, 0) (fun _ => rfl) ?_
      refine yi_D_gi (v := J 11 11) rfl rfl rfl rfl (fun _ => ?_)
      have h2 : ¬ ((J 11 11) = 0) := by omega
      refine yi_D_if1 true rfl (yi_ne_t h2) ?_
      exact yi_D_mono (jn89f y5 y4 y3 _ _ _ jF je jn jsp ) (by omega)
  show yi_D zi_Ms d zi_m255 k (0, [(0, .inr (.inr (some 11))), (1, .inl 2), (2, .inl (dp : Int))], [], (I, L, R, Y), 0, 0) _
  refine yi_D_run 2 (2, [(0, .inr (.inr (some 11))), (1, .inl 2), (2, .inl (dp : Int))], [.inl 4, .inl 2], (I, L, R, Y), 0, 0) (fun _ => rfl) ?_
  refine yi_D_if2 true rfl (by decide) ?_
  refine yi_D_run 3 (14, [(0, .inr (.inr (some 11))), (1, .inl 2), (2, .inl (dp : Int))], [.inl 1, .inl 2, .inr (.inr (some 11))], (I, L, R, Y), 0, 0) (fun _ => rfl) ?_
  refine yi_D_iadd rfl (3) (by decide) ?_
  refine yi_D_run 1 (16, [(0, .inr (.inr (some 11))), (1, .inl 2), (2, .inl (dp : Int))], [.inl (dp : Int), .inl 3, .inr (.inr (some 11))], (I, L, R, Y), 0, 0) (fun _ => rfl) ?_
  have hst3 : sp_R K P V (10, a, dp, sk, ld, nm, cs) (.inl (11, a, dp, 32 :: sk, ld, nm, cs)) := sp_R_1 rfl
  refine yi_D_callv rfl (hRE dp (32 :: sk) cs hW hf hA (by omega) hcc (by omega)) ?_
  rintro _ ⟨I4, L5, rfl, hFr6, (⟨a7, cs8, hR9, lt10, hf11, hA12, hcc13, ll14⟩ | ⟨f15, hR16, hz17, he18⟩)⟩
  · have hW19 := cs_W_t hW hFr6
    have hF20 := hFr6
    have hF21 : ∀ p k, (p ≠ 11 ∧ p ≠ 19) → I4 p k = I p k := fun p k h => hFr6.1 p k h.1 h.2
    have hlehA12 := hA12.2.1
    have hclhcc13 := cc_le hcc13
    have hR22 := sp_R_t hst3 hR9
    show yi_D zi_Ms d zi_m255 k (19, [(0, .inr (.inr (some 11))), (1, .inl 2), (2, .inl (dp : Int))], [], (I4, L5, R, Y), 0, 0) _
    refine yi_D_run 2 (21, [(0, .inr (.inr (some 11))), (1, .inl 2), (2, .inl (dp : Int))], [.inl 1, .inl 2], (I4, L5, R, Y), 0, 0) (fun _ => rfl) ?_
    refine yi_D_if2 true rfl (by decide) ?_
    refine yi_D_run 4 (35, [(4, .inl 0), (3, .inl 1000), (0, .inr (.inr (some 11))), (1, .inl 2), (2, .inl (dp : Int))], [], (I4, L5, R, Y), 0, 0) (fun _ => rfl) ?_
    have pt35 : ∀ j35, j35 ≤ k → ∀ (y4 : Int) (y5 : Int) (J1 : Nat → Nat → Int) (G1 : Nat → Nat → Int) (a1 : Nat) (cs1 : List (Int × Int)), (0 ≤ y4 ∧ 2 * y4 < (a1 : Int)) → (a < a1) → (cs_F I L J1 G1) → (J1 11 11 = 0) → (cs_A J1 G1 K te a1) → (sp_R K P V (10, a, dp, sk, ld, nm, cs) (.inl (13, a1, dp, 32 :: sk, ld, nm, cs1))) → (cc_S trP u0 cb fx b0 vg false J1 cs1) → (cs1.length + a ≤ cs.length + a1) → yi_D zi_Ms d zi_m255 j35 (35, [(4, .inl y4), (3, .inl 1000), (0, .inr (.inr (some 11))), (1, .inl 2), (2, .inl (dp : Int)), (5, .inl y5)], [], (J1, G1, R, Y), 0, 0) (cs_QRC trP u0 cb fx b0 vg I L R Y K P V te (10, a, dp, sk, ld, nm, cs) 13 a dp sk ld nm cs) := by
      intro j35
      induction j35 with
      | zero => intros; exact yi_D_0
      | succ j35 ih35 =>
      intro hk35 y4 y5 J1 G1 a1 cs1 hn9 lt9 hF9 hf9 hA9 hR9 hcc9 hu9
      have hW9 := cs_W_t hW hF9
      have hF91 : ∀ p k, (p ≠ 11 ∧ p ≠ 19) → J1 p k = I p k := fun p k h => hF9.1 p k h.1 h.2
      have hle9 := hA9.2.1
      have hte9 := hW.2.1.1
      have hc9 := cc_le hcc9
      refine yi_D_run1 1 (38, [(4, .inl y4), (3, .inl 1000), (0, .inr (.inr (some 11))), (1, .inl 2), (2, .inl (dp : Int)), (5, .inl y5)], [.inl 1000, .inl y4], (J1, G1, R, Y), 0, 0) (fun _ => rfl) ?_
      have h23 : ¬ (1000 ≤ y4) := by omega
      refine yi_D_if2 false rfl (yi_ge_f h23) ?_
      refine yi_D_run 1 (42, [(4, .inl y4), (3, .inl 1000), (0, .inr (.inr (some 11))), (1, .inl 2), (2, .inl (dp : Int)), (5, .inl y5)], [.inr (.inr (some 11))], (J1, G1, R, Y), 0, 0) (fun _ => rfl) ?_
      refine yi_D_gi (v := 0) rfl rfl rfl hf9 (fun _ => ?_)
      refine yi_D_if1 false rfl (by decide) ?_
      refine yi_D_run 1 (49, [(4, .inl y4), (3, .inl 1000), (0, .inr (.inr (some 11))), (1, .inl 2), (2, .inl (dp : Int)), (5, .inl y5)], [.inr (.inr (some 11))], (J1, G1, R, Y), 0, 0) (fun _ => rfl) ?_
      refine yi_D_gi (v := K a1) rfl rfl rfl hA9.2.2.1 (fun _ => ?_)
      refine yi_D_calls rfl (p_levelOf) ?_
      rintro _ rfl
      show yi_D zi_Ms d zi_m255 j35 (55, [(4, .inl y4), (3, .inl 1000), (0, .inr (.inr (some 11))), (1, .inl 2), (2, .inl (dp : Int)), (5, .inl y5)], [.inl (sp_lv (K a1))], (J1, G1, R, Y), 0, 0) _
      refine yi_D_run 1 (56, [(4, .inl y4), (3, .inl 1000), (0, .inr (.inr (some 11))), (1, .inl 2), (2, .inl (dp : Int)), (5, .inl y5)], [.inl 2, .inl (sp_lv (K a1))], (J1, G1, R, Y), 0, 0) (fun _ => rfl) ?_
      have hlva1 := sp_lv_i (k := K a1) (l := 2) (by omega)
      have hlna1 := sp_lev_n (k := K a1)
      by_cases h24 : (sp_lv (K a1)) = 2
      · refine yi_D_if2 false rfl (yi_ne_f h24) ?_
        refine yi_D_run 1 (60, [(4, .inl y4), (3, .inl 1000), (0, .inr (.inr (some 11))), (1, .inl 2), (2, .inl (dp : Int)), (5, .inl y5)], [.inr (.inr (some 11))], (J1, G1, R, Y), 0, 0) (fun _ => rfl) ?_
        refine yi_D_gi (v := K a1) rfl rfl rfl hA9.2.2.1 (fun _ => ?_)
        refine yi_D_run 2 (66, [(5, .inl (K a1)), (4, .inl y4), (3, .inl 1000), (0, .inr (.inr (some 11))), (1, .inl 2), (2, .inl (dp : Int))], [.inr (.inr (some 11))], (J1, G1, R, Y), 0, 0) (fun _ => rfl) ?_
        refine yi_D_callv rfl (p_advance_z hW9 hf9 hA9) ?_
        rintro _ ⟨I25, L26, rfl, hGa27, hf28, hA29⟩
        rw [sp_nx_lt (cs_lt hW9.2.1 hA9.2.1 (by omega))] at hA29
        have hA29 : cs_A I25 L26 K te (a1 + 1) := hA29
        have hW30 := cs_W_t hW9 (cs_G_F hGa27)
        have hF31 := cs_F_t hF9 (cs_G_F hGa27)
        have hcc32 := cc_G hcc9 hGa27
        show yi_D zi_Ms d zi_m255 j35 (69, [(5, .inl (K a1)), (4, .inl y4), (3, .inl 1000), (0, .inr (.inr (some 11))), (1, .inl 2), (2, .inl (dp : Int))], [], (I25, L26, R, Y), 0, 0) _
        refine yi_D_run 3 (72, [(5, .inl (K a1)), (4, .inl y4), (3, .inl 1000), (0, .inr (.inr (some 11))), (1, .inl 2), (2, .inl (dp : Int))], [.inl 1, .inl 2, .inr (.inr (some 11))], (I25, L26, R, Y), 0, 0) (fun _ => rfl) ?_
        refine yi_D_iadd rfl (3) (by decide) ?_
        refine yi_D_run 1 (74, [(5, .inl (K a1)), (4, .inl y4), (3, .inl 1000), (0, .inr (.inr (some 11))), (1, .inl 2), (2, .inl (dp : Int))], [.inl (dp : Int), .inl 3, .inr (.inr (some 11))], (I25, L26, R, Y), 0, 0) (fun _ => rfl) ?_
        have hst33 : sp_R K P V (10, a, dp, sk, ld, nm, cs) (.inl (11, a1 + 1, dp, (100 + 8 * (K a1).toNat + 2) :: sk, ld, nm, cs1)) := sp_R_s hR9 ((sp_st13 (l := 2) (by omega)).trans (if_pos (by omega)))
        refine yi_D_callv rfl (hRE dp ((100 + 8 * (K a1).toNat + 2) :: sk) cs1 hW30 hf28 hA29 (by omega) hcc32 (by omega)) ?_
        rintro _ ⟨I34, L35, rfl, hFr36, (⟨a37, cs38, hR39, lt40, hf41, hA42, hcc43, ll44⟩ | ⟨f45, hR46, hz47, he48⟩)⟩
        · have hW49 := cs_W_t hW30 hFr36
          have hF50 := cs_F_t hF31 hFr36
          have hF51 : ∀ p k, (p ≠ 11 ∧ p ≠ 19) → I34 p k = I25 p k := fun p k h => hFr36.1 p k h.1 h.2
          have hlehA42 := hA42.2.1
          have hclhcc43 := cc_le hcc43
          have hR52 := sp_R_s (sp_R_t hst33 hR39) (sp_st13b (l := 2) (by omega) (by omega))
          show yi_D zi_Ms d zi_m255 j35 (77, [(5, .inl (K a1)), (4, .inl y4), (3, .inl 1000), (0, .inr (.inr (some 11))), (1, .inl 2), (2, .inl (dp : Int))], [], (I34, L35, R, Y), 0, 0) _
          refine yi_D_run 2 (80, [(5, .inl (K a1)), (4, .inl y4), (3, .inl 1000), (0, .inr (.inr (some 11))), (1, .inl 2), (2, .inl (dp : Int))], [.inl (K a1), .inr (.inr (some 11))], (I34, L35, R, Y), 0, 0) (fun _ => rfl) ?_
          refine yi_D_callv rfl (p_emitC hW49 hf41 (cc_u hcc43) (by omega)) ?_
          rintro _ ⟨I53, rfl, hE54⟩
          have hE55 := cc_E_E hE54
          have hsghcc56 := trP_sg (k := K a1) (by omega)
          have hcc56 := cc_push hcc43 hE54 (x := (sp_sg (K a1).toNat, 0)) hsghcc56.1 (isnm_n hsghcc56.2.1) hsghcc56.2.2
          have hlnhcc56 := List.length_append (as := cs38) (bs := [((sp_sg (K a1).toNat : Int), (0 : Int))])
          rw [List.length_singleton] at hlnhcc56
          have hW57 := cs_W_t hW49 (cs_E_F (L := L35) hE55)
          have hF58 := cs_F_t hF50 (cs_E_F hE55)
          have hf59 : I53 11 11 = 0 := (hE55 11 11 (by omega) (by omega)).trans hf41
          have hA60 := cs_A_e hA42 hE55
          show yi_D zi_Ms d zi_m255 j35 (83, [(5, .inl (K a1)), (4, .inl y4), (3, .inl 1000), (0, .inr (.inr (some 11))), (1, .inl 2), (2, .inl (dp : Int))], [], (I53, L35, R, Y), 0, 0) _
          refine yi_D_iinc [(4, .inl (y4 + 1)), (5, .inl (K a1)), (3, .inl 1000), (0, .inr (.inr (some 11))), (1, .inl 2), (2, .inl (dp : Int))] rfl rfl rfl (by rw [show yi_w (y4 + 1) = y4 + 1 from (yi_wn (by omega) (by omega)).trans (by omega)]; rfl) ?_
          refine yi_D_run 1 (35, [(4, .inl (y4 + 1)), (5, .inl (K a1)), (3, .inl 1000), (0, .inr (.inr (some 11))), (1, .inl 2), (2, .inl (dp : Int))], [], (I53, L35, R, Y), 0, 0) (fun _ => rfl) ?_
          refine yi_D_al (al := [(4, .inl (y4 + 1)), (3, .inl 1000), (0, .inr (.inr (some 11))), (1, .inl 2), (2, .inl (dp : Int)), (5, .inl (K a1))]) (show ([4, 3, 0, 1, 2, 5] : List Nat).Nodup by decide) (show ([4, 5, 3, 0, 1, 2] : List Nat).Nodup by decide) (yi_mc (List.mem_of_getElem? (i := 0) rfl) (yi_mc (List.mem_of_getElem? (i := 5) rfl) (yi_mc (List.mem_of_getElem? (i := 1) rfl) (yi_mc (List.mem_of_getElem? (i := 2) rfl) (yi_mc (List.mem_of_getElem? (i := 3) rfl) (yi_mc (List.mem_of_getElem? (i := 4) rfl) yi_mn)))))) ?_
          exact yi_D_mono (ih35 (by omega) (y4 + 1) (K a1) I53 L35 a37 (cs38 ++ [(sp_sg (K a1).toNat, 0)]) (by omega) (by omega) hF58 hf59 hA60 hR52 hcc56 (by omega)) (by omega)
        · have hW61 := cs_W_t hW30 hFr36
          have hF62 := cs_F_t hF31 hFr36
          have hF63 : ∀ p k, (p ≠ 11 ∧ p ≠ 19) → I34 p k = I25 p k := fun p k h => hFr36.1 p k h.1 h.2
          have hn64 : ¬ I34 11 11 = 0 := by rw [he48]; exact hz47
          have hx65 : sp_R K P V (10, a, dp, sk, ld, nm, cs) (.inr f45) := sp_R_t hst33 hR46
          show yi_D zi_Ms d zi_m255 j35 (77, [(5, .inl (K a1)), (4, .inl y4), (3, .inl 1000), (0, .inr (.inr (some 11))), (1, .inl 2), (2, .inl (dp : Int))], [], (I34, L35, R, Y), 0, 0) _
          refine yi_D_run 2 (80, [(5, .inl (K a1)), (4, .inl y4), (3, .inl 1000), (0, .inr (.inr (some 11))), (1, .inl 2), (2, .inl (dp : Int))], [.inl (K a1), .inr (.inr (some 11))], (I34, L35, R, Y), 0, 0) (fun _ => rfl) ?_
          refine yi_D_callv rfl (p_emit hW61) ?_
          rintro _ ⟨I66, rfl, hE67⟩
          have hW68 := cs_W_t hW61 (cs_E_F (L := L35) hE67)
          have hF69 := cs_F_t hF62 (cs_E_F hE67)
          have hf70 : ¬ I66 11 11 = 0 := by rw [hE67 11 11 (by omega) (by omega)]; exact hn64
          have he71 := (hE67 11 11 (by omega) (by omega)).trans he48
          show yi_D zi_Ms d zi_m255 j35 (83, [(5, .inl (K a1)), (4, .inl y4), (3, .inl 1000), (0, .inr (.inr (some 11))), (1, .inl 2), (2, .inl (dp : Int))], [], (I66, L35, R, Y), 0, 0) _
          refine yi_D_iinc [(4, .inl (yi_w (y4 + 1))), (5, .inl (K a1)), (3, .inl 1000), (0, .inr (.inr (some 11))), (1, .inl 2), (2, .inl (dp : Int))] rfl rfl rfl rfl ?_
          refine yi_D_run 1 (35, [(4, .inl (yi_w (y4 + 1))), (5, .inl (K a1)), (3, .inl 1000), (0, .inr (.inr (some 11))), (1, .inl 2), (2, .inl (dp : Int))], [], (I66, L35, R, Y), 0, 0) (fun _ => rfl) ?_
          refine yi_D_al (al := [(5, .inl (K a1)), (4, .inl (yi_w (y4 + 1))), (3, .inl 1000), (0, .inr (.inr (some 11))), (1, .inl 2), (2, .inl (dp : Int))]) (show ([5, 4, 3, 0, 1, 2] : List Nat).Nodup by decide) (show ([4, 5, 3, 0, 1, 2] : List Nat).Nodup by decide) (yi_mc (List.mem_of_getElem? (i := 1) rfl) (yi_mc (List.mem_of_getElem? (i := 0) rfl) (yi_mc (List.mem_of_getElem? (i := 2) rfl) (yi_mc (List.mem_of_getElem? (i := 3) rfl) (yi_mc (List.mem_of_getElem? (i := 4) rfl) (yi_mc (List.mem_of_getElem? (i := 5) rfl) yi_mn)))))) ?_
          exact yi_D_mono (jn35f (K a1) (yi_w (y4 + 1)) 1000 _ _ _ hF69 he71 hz47 hx65 ) (by omega)
      · refine yi_D_if2 true rfl (yi_ne_t h24) ?_
        refine yi_D_retv rfl ?_
        have hstd := sp_R_s hR9 ((sp_st13 (l := 2) (by omega)).trans (if_neg (by omega)))
        exact ⟨_, _, rfl, hF9, Or.inl ⟨_, _, hstd, by omega, hf9, hA9, hcc9, by omega⟩⟩
    refine yi_D_al (al := [(4, .inl 0), (3, .inl 1000), (0, .inr (.inr (some 11))), (1, .inl 2), (2, .inl (dp : Int)), (5, .inl 0)]) (show ([4, 3, 0, 1, 2, 5] : List Nat).Nodup by decide) (show ([4, 3, 0, 1, 2] : List Nat).Nodup by decide) (yi_mc (List.mem_of_getElem? (i := 0) rfl) (yi_mc (List.mem_of_getElem? (i := 1) rfl) (yi_mc (List.mem_of_getElem? (i := 2) rfl) (yi_mc (List.mem_of_getElem? (i := 3) rfl) (yi_mc (List.mem_of_getElem? (i := 4) rfl) yi_mn))))) ?_
    exact pt35 k (Nat.le_refl _) 0 0 I4 L5 a7 cs8 (by omega) (by omega) hF20 hf11 hA12 hR22 hcc13 (by omega)
  · have hW72 := cs_W_t hW hFr6
    have hF73 := hFr6
    have hF74 : ∀ p k, (p ≠ 11 ∧ p ≠ 19) → I4 p k = I p k := fun p k h => hFr6.1 p k h.1 h.2
    have hn75 : ¬ I4 11 11 = 0 := by rw [he18]; exact hz17
    have hx76 : sp_R K P V (10, a, dp, sk, ld, nm, cs) (.inr f15) := sp_R_t hst3 hR16
    show yi_D zi_Ms d zi_m255 k (19, [(0, .inr (.inr (some 11))), (1, .inl 2), (2, .inl (dp : Int))], [], (I4, L5, R, Y), 0, 0) _
    refine yi_D_run 2 (21, [(0, .inr (.inr (some 11))), (1, .inl 2), (2, .inl (dp : Int))], [.inl 1, .inl 2], (I4, L5, R, Y), 0, 0) (fun _ => rfl) ?_
    refine yi_D_if2 true rfl (by decide) ?_
    refine yi_D_run 4 (35, [(4, .inl 0), (3, .inl 1000), (0, .inr (.inr (some 11))), (1, .inl 2), (2, .inl (dp : Int))], [], (I4, L5, R, Y), 0, 0) (fun _ => rfl) ?_
    refine yi_D_al (al := [(5, .inl 0), (4, .inl 0), (3, .inl 1000), (0, .inr (.inr (some 11))), (1, .inl 2), (2, .inl (dp : Int))]) (show ([5, 4, 3, 0, 1, 2] : List Nat).Nodup by decide) (show ([4, 3, 0, 1, 2] : List Nat).Nodup by decide) (yi_mc (List.mem_of_getElem? (i := 1) rfl) (yi_mc (List.mem_of_getElem? (i := 2) rfl) (yi_mc (List.mem_of_getElem? (i := 3) rfl) (yi_mc (List.mem_of_getElem? (i := 4) rfl) (yi_mc (List.mem_of_getElem? (i := 5) rfl) yi_mn))))) ?_
    exact yi_D_mono (jn35f 0 0 1000 _ _ _ hF73 he18 hz17 hx76 ) (by omega)
theorem p_readExprC_s3 {d : Nat} {I L : Nat → Nat → Int} {R : Nat → Nat → Option Nat} {Y : (Nat → Nat) × (Nat → Nat) × Nat} (hRE : cs_REC d 4) {K P V : Nat → Int} {te q a : Nat} {ld : Nat → Int} {nm : Int → Int} (hW : cs_W I L R Y K P V te q ld nm) (hf : I 11 11 = 0) (hA : cs_A I L K te a) (dp : Nat) (sk : List Nat) (cs : List (Int × Int)) (hd : dp ≤ 5) {u0 : Nat} {cb : List (Int × Int)} {fx : Nat → Int} {b0 vg : Int} (hcc : cc_S trP u0 cb fx b0 vg false I cs) (hu : u0 + cs.length + te ≤ 1001 + cb.length + a) : yi_P zi_Ms (d + 1) 255 [.inr (.inr (some 11)), .inl 3, .inl (dp : Int)] (I, L, R, Y) (cs_QRC trP u0 cb fx b0 vg I L R Y K P V te (11, a, dp, sk, ld, nm, cs) 13 a dp sk ld nm cs) := by
  refine yi_P_s (M := zi_m255) rfl (fun k => ?_)
  have hc0 := cc_le hcc
  have hle0 := hA.2.1
  have hte0 := hW.2.1.1
  have jn89f : ∀ (y5 : Int) (y4 : Int) (y3 : Int) (J G : Nat → Nat → Int) (f : Int), cs_F I L J G → J 11 11 = f → ¬ f = 0 → sp_R K P V (11, a, dp, sk, ld, nm, cs) (.inr f) → yi_D zi_Ms d zi_m255 k (89, [(5, .inl y5), (4, .inl y4), (3, .inl y3), (0, .inr (.inr (some 11))), (1, .inl 3), (2, .inl (dp : Int))], [], (J, G, R, Y), 0, 0) (cs_QRC trP u0 cb fx b0 vg I L R Y K P V te (11, a, dp, sk, ld, nm, cs) 13 a dp sk ld nm cs) := by
    intro y5 y4 y3 J G f jF je jn jsp 
    have jW := cs_W_t hW jF
    have jf : ¬ J 11 11 = 0 := by rw [je]; exact jn
    have jF1 : ∀ p k, (p ≠ 11 ∧ p ≠ 19) → J p k = I p k := fun p k h => jF.1 p k h.1 h.2
    have jF2 := jF.2
    refine yi_D_retv rfl ?_
    exact ⟨_, _, rfl, jF, Or.inr ⟨_, jsp, jn, je⟩⟩
  have jn35f : ∀ (y5 : Int) (y4 : Int) (y3 : Int) (J G : Nat → Nat → Int) (f : Int), cs_F I L J G → J 11 11 = f → ¬ f = 0 → sp_R K P V (11, a, dp, sk, ld, nm, cs) (.inr f) → yi_D zi_Ms d zi_m255 k (35, [(5, .inl y5), (4, .inl y4), (3, .inl y3), (0, .inr (.inr (some 11))), (1, .inl 3), (2, .inl (dp : Int))], [], (J, G, R, Y), 0, 0) (cs_QRC trP u0 cb fx b0 vg I L R Y K P V te (11, a, dp, sk, ld, nm, cs) 13 a dp sk ld nm cs) := by
    intro y5 y4 y3 J G f jF je jn jsp 
    have jW := cs_W_t hW jF
    have jf : ¬ J 11 11 = 0 := by rw [je]; exact jn
    have jF1 : ∀ p k, (p ≠ 11 ∧ p ≠ 19) → J p k = I p k := fun p k h => jF.1 p k h.1 h.2
    have jF2 := jF.2
    refine yi_D_run 2 (38, [(5, .inl y5), (4, .inl y4), (3, .inl y3), (0, .inr (.inr (some 11))), (1, .inl 3), (2, .inl (dp : Int))], [.inl y3, .inl y4], (J, G, R, Y), 0, 0) (fun _ => rfl) ?_
    by_cases h1 : y3 ≤ y4
    · refine yi_D_if2 true rfl (yi_ge_t h1) ?_
      exact yi_D_mono (jn89f y5 y4 y3 _ _ _ jF je jn jsp ) (by omega)
    · refine yi_D_if2 false rfl (yi_ge_f h1) ?_
      refine yi_D_run 1 (42, [(5, .inl y5), (4, .inl y4), (3, .inl y3), (0, .inr (.inr (some 11))), (1, .inl 3), (2, .inl (dp : Int))], [.inr (.inr (some 11))], (J, G, R, Y), 0, 0) (fun _ => rfl) ?_
      refine yi_D_gi (v := J 11 11) rfl rfl rfl rfl (fun _ => ?_)
      have h2 : ¬ ((J 11 11) = 0) := by omega
      refine yi_D_if1 true rfl (yi_ne_t h2) ?_
      exact yi_D_mono (jn89f y5 y4 y3 _ _ _ jF je jn jsp ) (by omega)
  show yi_D zi_Ms d zi_m255 k (0, [(0, .inr (.inr (some 11))), (1, .inl 3), (2, .inl (dp : Int))], [], (I, L, R, Y), 0, 0) _
  refine yi_D_run 2 (2, [(0, .inr (.inr (some 11))), (1, .inl 3), (2, .inl (dp : Int))], [.inl 4, .inl 3], (I, L, R, Y), 0, 0) (fun _ => rfl) ?_
  refine yi_D_if2 true rfl (by decide) ?_
  refine yi_D_run 3 (14, [(0, .inr (.inr (some 11))), (1, .inl 3), (2, .inl (dp : Int))], [.inl 1, .inl 3, .inr (.inr (some 11))], (I, L, R, Y), 0, 0) (fun _ => rfl) ?_
  refine yi_D_iadd rfl (4) (by decide) ?_
  refine yi_D_run 1 (16, [(0, .inr (.inr (some 11))), (1, .inl 3), (2, .inl (dp : Int))], [.inl (dp : Int), .inl 4, .inr (.inr (some 11))], (I, L, R, Y), 0, 0) (fun _ => rfl) ?_
  have hst3 : sp_R K P V (11, a, dp, sk, ld, nm, cs) (.inl (12, a, dp, 33 :: sk, ld, nm, cs)) := sp_R_1 rfl
  refine yi_D_callv rfl (hRE dp (33 :: sk) cs hW hf hA (by omega) hcc (by omega)) ?_
  rintro _ ⟨I4, L5, rfl, hFr6, (⟨a7, cs8, hR9, lt10, hf11, hA12, hcc13, ll14⟩ | ⟨f15, hR16, hz17, he18⟩)⟩
  · have hW19 := cs_W_t hW hFr6
    have hF20 := hFr6
    have hF21 : ∀ p k, (p ≠ 11 ∧ p ≠ 19) → I4 p k = I p k := fun p k h => hFr6.1 p k h.1 h.2
    have hlehA12 := hA12.2.1
    have hclhcc13 := cc_le hcc13
    have hR22 := sp_R_t hst3 hR9
    show yi_D zi_Ms d zi_m255 k (19, [(0, .inr (.inr (some 11))), (1, .inl 3), (2, .inl (dp : Int))], [], (I4, L5, R, Y), 0, 0) _
    refine yi_D_run 2 (21, [(0, .inr (.inr (some 11))), (1, .inl 3), (2, .inl (dp : Int))], [.inl 1, .inl 3], (I4, L5, R, Y), 0, 0) (fun _ => rfl) ?_
    refine yi_D_if2 true rfl (by decide) ?_
    refine yi_D_run 4 (35, [(4, .inl 0), (3, .inl 1000), (0, .inr (.inr (some 11))), (1, .inl 3), (2, .inl (dp : Int))], [], (I4, L5, R, Y), 0, 0) (fun _ => rfl) ?_
    have pt35 : ∀ j35, j35 ≤ k → ∀ (y4 : Int) (y5 : Int) (J1 : Nat → Nat → Int) (G1 : Nat → Nat → Int) (a1 : Nat) (cs1 : List (Int × Int)), (0 ≤ y4 ∧ 2 * y4 < (a1 : Int)) → (a < a1) → (cs_F I L J1 G1) → (J1 11 11 = 0) → (cs_A J1 G1 K te a1) → (sp_R K P V (11, a, dp, sk, ld, nm, cs) (.inl (13, a1, dp, 33 :: sk, ld, nm, cs1))) → (cc_S trP u0 cb fx b0 vg false J1 cs1) → (cs1.length + a ≤ cs.length + a1) → yi_D zi_Ms d zi_m255 j35 (35, [(4, .inl y4), (3, .inl 1000), (0, .inr (.inr (some 11))), (1, .inl 3), (2, .inl (dp : Int)), (5, .inl y5)], [], (J1, G1, R, Y), 0, 0) (cs_QRC trP u0 cb fx b0 vg I L R Y K P V te (11, a, dp, sk, ld, nm, cs) 13 a dp sk ld nm cs) := by
      intro j35
      induction j35 with
      | zero => intros; exact yi_D_0
      | succ j35 ih35 =>
      intro hk35 y4 y5 J1 G1 a1 cs1 hn9 lt9 hF9 hf9 hA9 hR9 hcc9 hu9
      have hW9 := cs_W_t hW hF9
      have hF91 : ∀ p k, (p ≠ 11 ∧ p ≠ 19) → J1 p k = I p k := fun p k h => hF9.1 p k h.1 h.2
      have hle9 := hA9.2.1
      have hte9 := hW.2.1.1
      have hc9 := cc_le hcc9
      refine yi_D_run1 1 (38, [(4, .inl y4), (3, .inl 1000), (0, .inr (.inr (some 11))), (1, .inl 3), (2, .inl (dp : Int)), (5, .inl y5)], [.inl 1000, .inl y4], (J1, G1, R, Y), 0, 0) (fun _ => rfl) ?_
      have h23 : ¬ (1000 ≤ y4) := by omega
      refine yi_D_if2 false rfl (yi_ge_f h23) ?_
      refine yi_D_run 1 (42, [(4, .inl y4), (3, .inl 1000), (0, .inr (.inr (some 11))), (1, .inl 3), (2, .inl (dp : Int)), (5, .inl y5)], [.inr (.inr (some 11))], (J1, G1, R, Y), 0, 0) (fun _ => rfl) ?_
      refine yi_D_gi (v := 0) rfl rfl rfl hf9 (fun _ => ?_)
      refine yi_D_if1 false rfl (by decide) ?_
      refine yi_D_run 1 (49, [(4, .inl y4), (3, .inl 1000), (0, .inr (.inr (some 11))), (1, .inl 3), (2, .inl (dp : Int)), (5, .inl y5)], [.inr (.inr (some 11))], (J1, G1, R, Y), 0, 0) (fun _ => rfl) ?_
      refine yi_D_gi (v := K a1) rfl rfl rfl hA9.2.2.1 (fun _ => ?_)
      refine yi_D_calls rfl (p_levelOf) ?_
      rintro _ rfl
      show yi_D zi_Ms d zi_m255 j35 (55, [(4, .inl y4), (3, .inl 1000), (0, .inr (.inr (some 11))), (1, .inl 3), (2, .inl (dp : Int)), (5, .inl y5)], [.inl (sp_lv (K a1))], (J1, G1, R, Y), 0, 0) _
      refine yi_D_run 1 (56, [(4, .inl y4), (3, .inl 1000), (0, .inr (.inr (some 11))), (1, .inl 3), (2, .inl (dp : Int)), (5, .inl y5)], [.inl 3, .inl (sp_lv (K a1))], (J1, G1, R, Y), 0, 0) (fun _ => rfl) ?_
      have hlva1 := sp_lv_i (k := K a1) (l := 3) (by omega)
      have hlna1 := sp_lev_n (k := K a1)
      by_cases h24 : (sp_lv (K a1)) = 3
      · refine yi_D_if2 false rfl (yi_ne_f h24) ?_
        refine yi_D_run 1 (60, [(4, .inl y4), (3, .inl 1000), (0, .inr (.inr (some 11))), (1, .inl 3), (2, .inl (dp : Int)), (5, .inl y5)], [.inr (.inr (some 11))], (J1, G1, R, Y), 0, 0) (fun _ => rfl) ?_
        refine yi_D_gi (v := K a1) rfl rfl rfl hA9.2.2.1 (fun _ => ?_)
        refine yi_D_run 2 (66, [(5, .inl (K a1)), (4, .inl y4), (3, .inl 1000), (0, .inr (.inr (some 11))), (1, .inl 3), (2, .inl (dp : Int))], [.inr (.inr (some 11))], (J1, G1, R, Y), 0, 0) (fun _ => rfl) ?_
        refine yi_D_callv rfl (p_advance_z hW9 hf9 hA9) ?_
        rintro _ ⟨I25, L26, rfl, hGa27, hf28, hA29⟩
        rw [sp_nx_lt (cs_lt hW9.2.1 hA9.2.1 (by omega))] at hA29
        have hA29 : cs_A I25 L26 K te (a1 + 1) := hA29
        have hW30 := cs_W_t hW9 (cs_G_F hGa27)
        have hF31 := cs_F_t hF9 (cs_G_F hGa27)
        have hcc32 := cc_G hcc9 hGa27
        show yi_D zi_Ms d zi_m255 j35 (69, [(5, .inl (K a1)), (4, .inl y4), (3, .inl 1000), (0, .inr (.inr (some 11))), (1, .inl 3), (2, .inl (dp : Int))], [], (I25, L26, R, Y), 0, 0) _
        refine yi_D_run 3 (72, [(5, .inl (K a1)), (4, .inl y4), (3, .inl 1000), (0, .inr (.inr (some 11))), (1, .inl 3), (2, .inl (dp : Int))], [.inl 1, .inl 3, .inr (.inr (some 11))], (I25, L26, R, Y), 0, 0) (fun _ => rfl) ?_
        refine yi_D_iadd rfl (4) (by decide) ?_
        refine yi_D_run 1 (74, [(5, .inl (K a1)), (4, .inl y4), (3, .inl 1000), (0, .inr (.inr (some 11))), (1, .inl 3), (2, .inl (dp : Int))], [.inl (dp : Int), .inl 4, .inr (.inr (some 11))], (I25, L26, R, Y), 0, 0) (fun _ => rfl) ?_
        have hst33 : sp_R K P V (11, a, dp, sk, ld, nm, cs) (.inl (12, a1 + 1, dp, (100 + 8 * (K a1).toNat + 3) :: sk, ld, nm, cs1)) := sp_R_s hR9 ((sp_st13 (l := 3) (by omega)).trans (if_pos (by omega)))
        refine yi_D_callv rfl (hRE dp ((100 + 8 * (K a1).toNat + 3) :: sk) cs1 hW30 hf28 hA29 (by omega) hcc32 (by omega)) ?_
        rintro _ ⟨I34, L35, rfl, hFr36, (⟨a37, cs38, hR39, lt40, hf41, hA42, hcc43, ll44⟩ | ⟨f45, hR46, hz47, he48⟩)⟩
        · have hW49 := cs_W_t hW30 hFr36
          have hF50 := cs_F_t hF31 hFr36
          have hF51 : ∀ p k, (p ≠ 11 ∧ p ≠ 19) → I34 p k = I25 p k := fun p k h => hFr36.1 p k h.1 h.2
          have hlehA42 := hA42.2.1
          have hclhcc43 := cc_le hcc43
          have hR52 := sp_R_s (sp_R_t hst33 hR39) (sp_st13b (l := 3) (by omega) (by omega))
          show yi_D zi_Ms d zi_m255 j35 (77, [(5, .inl (K a1)), (4, .inl y4), (3, .inl 1000), (0, .inr (.inr (some 11))), (1, .inl 3), (2, .inl (dp : Int))], [], (I34, L35, R, Y), 0, 0) _
          refine yi_D_run 2 (80, [(5, .inl (K a1)), (4, .inl y4), (3, .inl 1000), (0, .inr (.inr (some 11))), (1, .inl 3), (2, .inl (dp : Int))], [.inl (K a1), .inr (.inr (some 11))], (I34, L35, R, Y), 0, 0) (fun _ => rfl) ?_
          refine yi_D_callv rfl (p_emitC hW49 hf41 (cc_u hcc43) (by omega)) ?_
          rintro _ ⟨I53, rfl, hE54⟩
          have hE55 := cc_E_E hE54
          have hsghcc56 := trP_sg (k := K a1) (by omega)
          have hcc56 := cc_push hcc43 hE54 (x := (sp_sg (K a1).toNat, 0)) hsghcc56.1 (isnm_n hsghcc56.2.1) hsghcc56.2.2
          have hlnhcc56 := List.length_append (as := cs38) (bs := [((sp_sg (K a1).toNat : Int), (0 : Int))])
          rw [List.length_singleton] at hlnhcc56
          have hW57 := cs_W_t hW49 (cs_E_F (L := L35) hE55)
          have hF58 := cs_F_t hF50 (cs_E_F hE55)
          have hf59 : I53 11 11 = 0 := (hE55 11 11 (by omega) (by omega)).trans hf41
          have hA60 := cs_A_e hA42 hE55
          show yi_D zi_Ms d zi_m255 j35 (83, [(5, .inl (K a1)), (4, .inl y4), (3, .inl 1000), (0, .inr (.inr (some 11))), (1, .inl 3), (2, .inl (dp : Int))], [], (I53, L35, R, Y), 0, 0) _
          refine yi_D_iinc [(4, .inl (y4 + 1)), (5, .inl (K a1)), (3, .inl 1000), (0, .inr (.inr (some 11))), (1, .inl 3), (2, .inl (dp : Int))] rfl rfl rfl (by rw [show yi_w (y4 + 1) = y4 + 1 from (yi_wn (by omega) (by omega)).trans (by omega)]; rfl) ?_
          refine yi_D_run 1 (35, [(4, .inl (y4 + 1)), (5, .inl (K a1)), (3, .inl 1000), (0, .inr (.inr (some 11))), (1, .inl 3), (2, .inl (dp : Int))], [], (I53, L35, R, Y), 0, 0) (fun _ => rfl) ?_
          refine yi_D_al (al := [(4, .inl (y4 + 1)), (3, .inl 1000), (0, .inr (.inr (some 11))), (1, .inl 3), (2, .inl (dp : Int)), (5, .inl (K a1))]) (show ([4, 3, 0, 1, 2, 5] : List Nat).Nodup by decide) (show ([4, 5, 3, 0, 1, 2] : List Nat).Nodup by decide) (yi_mc (List.mem_of_getElem? (i := 0) rfl) (yi_mc (List.mem_of_getElem? (i := 5) rfl) (yi_mc (List.mem_of_getElem? (i := 1) rfl) (yi_mc (List.mem_of_getElem? (i := 2) rfl) (yi_mc (List.mem_of_getElem? (i := 3) rfl) (yi_mc (List.mem_of_getElem? (i := 4) rfl) yi_mn)))))) ?_
          exact yi_D_mono (ih35 (by omega) (y4 + 1) (K a1) I53 L35 a37 (cs38 ++ [(sp_sg (K a1).toNat, 0)]) (by omega) (by omega) hF58 hf59 hA60 hR52 hcc56 (by omega)) (by omega)
        · have hW61 := cs_W_t hW30 hFr36
          have hF62 := cs_F_t hF31 hFr36
          have hF63 : ∀ p k, (p ≠ 11 ∧ p ≠ 19) → I34 p k = I25 p k := fun p k h => hFr36.1 p k h.1 h.2
          have hn64 : ¬ I34 11 11 = 0 := by rw [he48]; exact hz47
          have hx65 : sp_R K P V (11, a, dp, sk, ld, nm, cs) (.inr f45) := sp_R_t hst33 hR46
          show yi_D zi_Ms d zi_m255 j35 (77, [(5, .inl (K a1)), (4, .inl y4), (3, .inl 1000), (0, .inr (.inr (some 11))), (1, .inl 3), (2, .inl (dp : Int))], [], (I34, L35, R, Y), 0, 0) _
          refine yi_D_run 2 (80, [(5, .inl (K a1)), (4, .inl y4), (3, .inl 1000), (0, .inr (.inr (some 11))), (1, .inl 3), (2, .inl (dp : Int))], [.inl (K a1), .inr (.inr (some 11))], (I34, L35, R, Y), 0, 0) (fun _ => rfl) ?_
          refine yi_D_callv rfl (p_emit hW61) ?_
          rintro _ ⟨I66, rfl, hE67⟩
          have hW68 := cs_W_t hW61 (cs_E_F (L := L35) hE67)
          have hF69 := cs_F_t hF62 (cs_E_F hE67)
          have hf70 : ¬ I66 11 11 = 0 := by rw [hE67 11 11 (by omega) (by omega)]; exact hn64
          have he71 := (hE67 11 11 (by omega) (by omega)).trans he48
          show yi_D zi_Ms d zi_m255 j35 (83, [(5, .inl (K a1)), (4, .inl y4), (3, .inl 1000), (0, .inr (.inr (some 11))), (1, .inl 3), (2, .inl (dp : Int))], [], (I66, L35, R, Y), 0, 0) _
          refine yi_D_iinc [(4, .inl (yi_w (y4 + 1))), (5, .inl (K a1)), (3, .inl 1000), (0, .inr (.inr (some 11))), (1, .inl 3), (2, .inl (dp : Int))] rfl rfl rfl rfl ?_
          refine yi_D_run 1 (35, [(4, .inl (yi_w (y4 + 1))), (5, .inl (K a1)), (3, .inl 1000), (0, .inr (.inr (some 11))), (1, .inl 3), (2, .inl (dp : Int))], [], (I66, L35, R, Y), 0, 0) (fun _ => rfl) ?_
          refine yi_D_al (al := [(5, .inl (K a1)), (4, .inl (yi_w (y4 + 1))), (3, .inl 1000), (0, .inr (.inr (some 11))), (1, .inl 3), (2, .inl (dp : Int))]) (show ([5, 4, 3, 0, 1, 2] : List Nat).Nodup by decide) (show ([4, 5, 3, 0, 1, 2] : List Nat).Nodup by decide) (yi_mc (List.mem_of_getElem? (i := 1) rfl) (yi_mc (List.mem_of_getElem? (i := 0) rfl) (yi_mc (List.mem_of_getElem? (i := 2) rfl) (yi_mc (List.mem_of_getElem? (i := 3) rfl) (yi_mc (List.mem_of_getElem? (i := 4) rfl) (yi_mc (List.mem_of_getElem? (i := 5) rfl) yi_mn)))))) ?_
          exact yi_D_mono (jn35f (K a1) (yi_w (y4 + 1)) 1000 _ _ _ hF69 he71 hz47 hx65 ) (by omega)
      · refine yi_D_if2 true rfl (yi_ne_t h24) ?_
        refine yi_D_retv rfl ?_
        have hstd := sp_R_s hR9 ((sp_st13 (l := 3) (by omega)).trans (if_neg (by omega)))
        exact ⟨_, _, rfl, hF9, Or.inl ⟨_, _, hstd, by omega, hf9, hA9, hcc9, by omega⟩⟩
    refine yi_D_al (al := [(4, .inl 0), (3, .inl 1000), (0, .inr (.inr (some 11))), (1, .inl 3), (2, .inl (dp : Int)), (5, .inl 0)]) (show ([4, 3, 0, 1, 2, 5] : List Nat).Nodup by decide) (show ([4, 3, 0, 1, 2] : List Nat).Nodup by decide) (yi_mc (List.mem_of_getElem? (i := 0) rfl) (yi_mc (List.mem_of_getElem? (i := 1) rfl) (yi_mc (List.mem_of_getElem? (i := 2) rfl) (yi_mc (List.mem_of_getElem? (i := 3) rfl) (yi_mc (List.mem_of_getElem? (i := 4) rfl) yi_mn))))) ?_
    exact pt35 k (Nat.le_refl _) 0 0 I4 L5 a7 cs8 (by omega) (by omega) hF20 hf11 hA12 hR22 hcc13 (by omega)
  · have hW72 := cs_W_t hW hFr6
    have hF73 := hFr6
    have hF74 : ∀ p k, (p ≠ 11 ∧ p ≠ 19) → I4 p k = I p k := fun p k h => hFr6.1 p k h.1 h.2
    have hn75 : ¬ I4 11 11 = 0 := by rw [he18]; exact hz17
    have hx76 : sp_R K P V (11, a, dp, sk, ld, nm, cs) (.inr f15) := sp_R_t hst3 hR16
    show yi_D zi_Ms d zi_m255 k (19, [(0, .inr (.inr (some 11))), (1, .inl 3), (2, .inl (dp : Int))], [], (I4, L5, R, Y), 0, 0) _
    refine yi_D_run 2 (21, [(0, .inr (.inr (some 11))), (1, .inl 3), (2, .inl (dp : Int))], [.inl 1, .inl 3], (I4, L5, R, Y), 0, 0) (fun _ => rfl) ?_
    refine yi_D_if2 true rfl (by decide) ?_
    refine yi_D_run 4 (35, [(4, .inl 0), (3, .inl 1000), (0, .inr (.inr (some 11))), (1, .inl 3), (2, .inl (dp : Int))], [], (I4, L5, R, Y), 0, 0) (fun _ => rfl) ?_
    refine yi_D_al (al := [(5, .inl 0), (4, .inl 0), (3, .inl 1000), (0, .inr (.inr (some 11))), (1, .inl 3), (2, .inl (dp : Int))]) (show ([5, 4, 3, 0, 1, 2] : List Nat).Nodup by decide) (show ([4, 3, 0, 1, 2] : List Nat).Nodup by decide) (yi_mc (List.mem_of_getElem? (i := 1) rfl) (yi_mc (List.mem_of_getElem? (i := 2) rfl) (yi_mc (List.mem_of_getElem? (i := 3) rfl) (yi_mc (List.mem_of_getElem? (i := 4) rfl) (yi_mc (List.mem_of_getElem? (i := 5) rfl) yi_mn))))) ?_
    exact yi_D_mono (jn35f 0 0 1000 _ _ _ hF73 he18 hz17 hx76 ) (by omega)
theorem p_readExprC_s4 {d : Nat} {I L : Nat → Nat → Int} {R : Nat → Nat → Option Nat} {Y : (Nat → Nat) × (Nat → Nat) × Nat} (hRP : cs_RPC d) {K P V : Nat → Int} {te q a : Nat} {ld : Nat → Int} {nm : Int → Int} (hW : cs_W I L R Y K P V te q ld nm) (hf : I 11 11 = 0) (hA : cs_A I L K te a) (dp : Nat) (sk : List Nat) (cs : List (Int × Int)) (hd : dp ≤ 5) {u0 : Nat} {cb : List (Int × Int)} {fx : Nat → Int} {b0 vg : Int} (hcc : cc_S trP u0 cb fx b0 vg false I cs) (hu : u0 + cs.length + te ≤ 1001 + cb.length + a) : yi_P zi_Ms (d + 1) 255 [.inr (.inr (some 11)), .inl 4, .inl (dp : Int)] (I, L, R, Y) (cs_QRC trP u0 cb fx b0 vg I L R Y K P V te (12, a, dp, sk, ld, nm, cs) 13 a dp sk ld nm cs) := by
  refine yi_P_s (M := zi_m255) rfl (fun k => ?_)
  have hc0 := cc_le hcc
  have hle0 := hA.2.1
  have hte0 := hW.2.1.1
  show yi_D zi_Ms d zi_m255 k (0, [(0, .inr (.inr (some 11))), (1, .inl 4), (2, .inl (dp : Int))], [], (I, L, R, Y), 0, 0) _
  refine yi_D_run 2 (2, [(0, .inr (.inr (some 11))), (1, .inl 4), (2, .inl (dp : Int))], [.inl 4, .inl 4], (I, L, R, Y), 0, 0) (fun _ => rfl) ?_
  refine yi_D_if2 false rfl (by decide) ?_
  refine yi_D_run 2 (7, [(0, .inr (.inr (some 11))), (1, .inl 4), (2, .inl (dp : Int))], [.inl (dp : Int), .inr (.inr (some 11))], (I, L, R, Y), 0, 0) (fun _ => rfl) ?_
  refine yi_D_callv rfl (hRP dp sk cs hW hf hA (by omega) hcc (by omega)) ?_
  rintro _ ⟨I1, L2, rfl, hFr3, (⟨a4, cs5, hR6, lt7, hf8, hA9, hcc10, ll11⟩ | ⟨f12, hR13, hz14, he15⟩)⟩
  · have hW16 := cs_W_t hW hFr3
    have hF17 := hFr3
    have hF18 : ∀ p k, (p ≠ 11 ∧ p ≠ 19) → I1 p k = I p k := fun p k h => hFr3.1 p k h.1 h.2
    have hlehA9 := hA9.2.1
    have hclhcc10 := cc_le hcc10
    have hR19 := hR6
    show yi_D zi_Ms d zi_m255 k (10, [(0, .inr (.inr (some 11))), (1, .inl 4), (2, .inl (dp : Int))], [], (I1, L2, R, Y), 0, 0) _
    refine yi_D_retv rfl ?_
    exact ⟨_, _, rfl, hF17, Or.inl ⟨_, _, hR19, by omega, hf8, hA9, hcc10, by omega⟩⟩
  · have hW20 := cs_W_t hW hFr3
    have hF21 := hFr3
    have hF22 : ∀ p k, (p ≠ 11 ∧ p ≠ 19) → I1 p k = I p k := fun p k h => hFr3.1 p k h.1 h.2
    have hn23 : ¬ I1 11 11 = 0 := by rw [he15]; exact hz14
    have hx24 : sp_R K P V (12, a, dp, sk, ld, nm, cs) (.inr f12) := hR13
    show yi_D zi_Ms d zi_m255 k (10, [(0, .inr (.inr (some 11))), (1, .inl 4), (2, .inl (dp : Int))], [], (I1, L2, R, Y), 0, 0) _
    refine yi_D_retv rfl ?_
    exact ⟨_, _, rfl, hF21, Or.inr ⟨_, hx24, hz14, he15⟩⟩
theorem p_readExprC : ∀ d, cs_RPC d ∧ cs_REC d 0 ∧ cs_REC d 1 ∧ cs_REC d 2 ∧ cs_REC d 3 ∧ cs_REC d 4
  | 0 => ⟨fun _ _ _ _ _ _ _ _ _ => yi_P_0, fun _ _ _ _ _ _ _ _ _ => yi_P_0, fun _ _ _ _ _ _ _ _ _ => yi_P_0, fun _ _ _ _ _ _ _ _ _ => yi_P_0, fun _ _ _ _ _ _ _ _ _ => yi_P_0, fun _ _ _ _ _ _ _ _ _ => yi_P_0⟩
  | d + 1 => by
    obtain ⟨hp, h0, h1, h2, h3, h4⟩ := p_readExprC d
    exact ⟨fun dp sk cs hW hf hA hd hcc hu => p_readPartC_s hp h0 hW hf hA dp sk cs hd hcc hu, fun dp sk cs hW hf hA hd hcc hu => p_readExprC_s0 h1 hW hf hA dp sk cs hd hcc hu, fun dp sk cs hW hf hA hd hcc hu => p_readExprC_s1 h2 hW hf hA dp sk cs hd hcc hu, fun dp sk cs hW hf hA hd hcc hu => p_readExprC_s2 h3 hW hf hA dp sk cs hd hcc hu, fun dp sk cs hW hf hA hd hcc hu => p_readExprC_s3 h4 hW hf hA dp sk cs hd hcc hu, fun dp sk cs hW hf hA hd hcc hu => p_readExprC_s4 hp hW hf hA dp sk cs hd hcc hu⟩
theorem p_readExpressionC {d : Nat} : cs_REC d 0 := (p_readExprC d).2.1
