/-! The check's reader with its codes. -/
/-- the codes that the check has made; those of the land that stands -/
def mc_S (gg : Nat → Int × Int) (I : Nat → Nat → Int) (cs : List (Int × Int)) : Prop := I 82 13 = (cs.length : Int) ∧ (∀ k, k < cs.length → I 89 (1100 + k) = (cs.getD k (0, 0)).1 ∧ I 90 (1100 + k) = (cs.getD k (0, 0)).2) ∧ ∀ k, k < 1100 → I 89 k = (gg k).1 ∧ I 90 k = (gg k).2
theorem mc_G {gg : Nat → Int × Int} {I I' : Nat → Nat → Int} {cs : List (Int × Int)} (h : mc_S gg I cs) (g : mt_G I I') : mc_S gg I' cs := ⟨(g 82 13 (by omega)).trans h.1, fun k hk => ⟨(g 89 _ (by omega)).trans (h.2.1 k hk).1, (g 90 _ (by omega)).trans (h.2.1 k hk).2⟩, fun k hk => ⟨(g 89 _ (by omega)).trans (h.2.2 k hk).1, (g 90 _ (by omega)).trans (h.2.2 k hk).2⟩⟩
theorem mc_push {gg : Nat → Int × Int} {I I' : Nat → Nat → Int} {cs : List (Int × Int)} {x y : Int} (h : mc_S gg I cs) (h13 : I' 82 13 = (cs.length : Int) + 1) (h89 : I' 89 (1100 + cs.length) = x) (h90 : I' 90 (1100 + cs.length) = y) (f : ∀ k, k < 1100 + cs.length → I' 89 k = I 89 k ∧ I' 90 k = I 90 k) : mc_S gg I' (cs ++ [(x, y)]) := by
  have hl : (cs ++ [(x, y)]).length = cs.length + 1 := by rw [List.length_append, List.length_singleton]
  refine ⟨by rw [h13, hl]; omega, fun k hk => ?_, fun k hk => by rw [(f k (by omega)).1, (f k (by omega)).2]; exact h.2.2 k hk⟩
  rw [hl] at hk
  by_cases c : k = cs.length
  · rw [c, h89, h90, List.getD_eq_getElem?_getD, List.getElem?_append_right (Nat.le_refl _), Nat.sub_self]
    exact ⟨rfl, rfl⟩
  · rw [(f _ (by omega)).1, (f _ (by omega)).2, (h.2.1 k (by omega)).1, (h.2.1 k (by omega)).2, List.getD_eq_getElem?_getD, List.getD_eq_getElem?_getD, List.getElem?_append_left (by omega)]
    exact ⟨rfl, rfl⟩
theorem q_emitC {d : Nat} {I L : Nat → Nat → Int} {R : Nat → Nat → Option Nat} {Y : (Nat → Nat) × (Nat → Nat) × Nat} {x y : Int} {K P V : Nat → Int} {te b : Nat} {ld : Nat → Int} {nm : Int → Int} (hW : mt_W I L R Y K P V te b ld nm) {cs : List (Int × Int)} {gg : Nat → Int × Int} (hm : mc_S gg I cs) : yi_P zi_Ms d 21 [.inr (.inr (some 82)), .inl x, .inl y] (I, L, R, Y) (fun r => ∃ I', r = (none, (I', L, R, Y), 0, 0) ∧ mt_E I I' ∧ mc_S gg I' (cs ++ [(x, y)])) := by
  refine yi_P_of (M := zi_m21) rfl (fun d k => ?_)
  have hS := hW.1
  have hl89 := (ym_S_at hS (j := 6) rfl).2.2
  have hb13 := hW.2.2.2.2.2.2.2
  rw [hm.1] at hb13
  have hix : (1100 + (cs.length : Int)).toNat = 1100 + cs.length := by omega
  have hl89 : Y.2.1 89 = 2200 := hl89
  show yi_D zi_Ms d zi_m21 k (0, [(0, .inr (.inr (some 82))), (1, .inl x), (2, .inl y)], [], (I, L, R, Y), 0, 0) _
  refine yi_D_run 1 (1, [(0, .inr (.inr (some 82))), (1, .inl x), (2, .inl y)], [.inr (.inr (some 82))], (I, L, R, Y), 0, 0) (fun _ => rfl) ?_
  refine yi_D_gr (v := some 89) rfl rfl rfl (ym_S_at hS (j := 6) rfl).1 (fun _ => ?_)
  refine yi_D_run 2 (8, [(0, .inr (.inr (some 82))), (1, .inl x), (2, .inl y)], [.inr (.inr (some 82)), .inl 1100, .inr (.inr (some 89))], (I, L, R, Y), 0, 0) (fun _ => rfl) ?_
  refine yi_D_gi (v := (cs.length : Int)) rfl rfl rfl hm.1 (fun _ => ?_)
  refine yi_D_run 2 (13, [(0, .inr (.inr (some 82))), (1, .inl x), (2, .inl y)], [.inl x, .inl (yi_w (1100 + (cs.length : Int))), .inr (.inr (some 89))], (I, L, R, Y), 0, 0) (fun _ => rfl) ?_
  refine yi_D_is rfl (fun b1 b2 => ?_)
  generalize w4 : yi_u I 89 ((yi_w (1100 + (cs.length : Int))).toNat) x = I3
  refine yi_D_run 1 (15, [(0, .inr (.inr (some 82))), (1, .inl x), (2, .inl y)], [.inr (.inr (some 82))], (I3, L, R, Y), 0, 0) (fun _ => rfl) ?_
  refine yi_D_gr (v := some 90) rfl rfl rfl (ym_S_at hS (j := 7) rfl).1 (fun _ => ?_)
  refine yi_D_run 2 (22, [(0, .inr (.inr (some 82))), (1, .inl x), (2, .inl y)], [.inr (.inr (some 82)), .inl 1100, .inr (.inr (some 90))], (I3, L, R, Y), 0, 0) (fun _ => rfl) ?_
  have r5 : I3 82 13 = (cs.length : Int) := by rw [← w4, yi_u_ne _ _ (by omega), hm.1]
  refine yi_D_gi (v := (cs.length : Int)) rfl rfl rfl r5 (fun _ => ?_)
  refine yi_D_run 2 (27, [(0, .inr (.inr (some 82))), (1, .inl x), (2, .inl y)], [.inl y, .inl (yi_w (1100 + (cs.length : Int))), .inr (.inr (some 90))], (I3, L, R, Y), 0, 0) (fun _ => rfl) ?_
  refine yi_D_is rfl (fun b6 b7 => ?_)
  generalize w9 : yi_u I3 90 ((yi_w (1100 + (cs.length : Int))).toNat) y = I8
  refine yi_D_run 2 (30, [(0, .inr (.inr (some 82))), (1, .inl x), (2, .inl y)], [.inr (.inr (some 82)), .inr (.inr (some 82))], (I8, L, R, Y), 0, 0) (fun _ => rfl) ?_
  have r10 : I8 82 13 = (cs.length : Int) := by rw [← w9, yi_u_ne _ _ (by omega), ← w4, yi_u_ne _ _ (by omega), hm.1]
  refine yi_D_gi (v := (cs.length : Int)) rfl rfl rfl r10 (fun _ => ?_)
  refine yi_D_run 2 (35, [(0, .inr (.inr (some 82))), (1, .inl x), (2, .inl y)], [.inl (yi_w ((cs.length : Int) + 1)), .inr (.inr (some 82))], (I8, L, R, Y), 0, 0) (fun _ => rfl) ?_
  refine yi_D_pi rfl (fun _ => ?_)
  generalize w12 : yi_u I8 82 13 (yi_w ((cs.length : Int) + 1)) = I11
  refine yi_D_retv rfl ?_
  have hw0 : yi_w (1100 + (cs.length : Int)) = 1100 + (cs.length : Int) := yi_wn (by omega) (by omega)
  have hw1 : yi_w ((cs.length : Int) + 1) = (cs.length : Int) + 1 := yi_wn (by omega) (by omega)
  rw [hw0, hix] at w4 w9
  rw [hw1] at w12
  refine ⟨_, rfl, ⟨fun p k hp => by rw [← w12, yi_u_ne _ _ (by omega), ← w9, yi_u_ne _ _ (by omega), ← w4, yi_u_ne _ _ (by omega)], fun hb => ?_⟩, mc_push hm ?_ ?_ ?_ (fun k hk => ⟨?_, ?_⟩)⟩
  · rw [← w12, yi_u_eq]
    omega
  · rw [← w12, yi_u_eq]
  · rw [← w12, yi_u_ne _ _ (by omega), ← w9, yi_u_ne _ _ (by omega), ← w4, yi_u_eq]
  · rw [← w12, yi_u_ne _ _ (by omega), ← w9, yi_u_eq]
  · rw [← w12, yi_u_ne _ _ (by omega), ← w9, yi_u_ne _ _ (by omega), ← w4, yi_u_ne _ _ (by omega)]
  · rw [← w12, yi_u_ne _ _ (by omega), ← w9, yi_u_ne _ _ (by omega), ← w4, yi_u_ne _ _ (by omega)]
theorem q_clauseE {d : Nat} {I L : Nat → Nat → Int} {R : Nat → Nat → Option Nat} {Y : (Nat → Nat) × (Nat → Nat) × Nat} {x0 x1 x2 x3 : Int} (hb : (-1 ≤ x0 ∧ x0 ≤ 12) ∧ (-12 ≤ x1 ∧ x1 ≤ 12) ∧ (-1 ≤ x2 ∧ x2 ≤ 12) ∧ (-1 ≤ x3 ∧ x3 ≤ 12)) : yi_P zi_Ms d 10 [.inl x0, .inl x1, .inl x2, .inl x3] (I, L, R, Y) (fun r => r = (some (.inl (sp_cc x0 x1 x2 x3)), (I, L, R, Y), 0, 0)) := by
  refine yi_P_of (M := zi_m10) rfl (fun d k => ?_)
  show yi_D zi_Ms d zi_m10 k (0, [(0, .inl x0), (1, .inl x1), (2, .inl x2), (3, .inl x3)], [], (I, L, R, Y), 0, 0) _
  refine yi_D_run 2 (2, [(0, .inl x0), (1, .inl x1), (2, .inl x2), (3, .inl x3)], [.inl 4, .inl x0], (I, L, R, Y), 0, 0) (fun _ => rfl) ?_
  refine yi_D_imul rfl (x0 * 4) (yi_wn (by omega) (by omega)) ?_
  refine yi_D_run 1 (4, [(0, .inl x0), (1, .inl x1), (2, .inl x2), (3, .inl x3)], [.inl x1, .inl (x0 * 4)], (I, L, R, Y), 0, 0) (fun _ => rfl) ?_
  refine yi_D_iadd rfl ((x0 * 4) + x1) (yi_wn (by omega) (by omega)) ?_
  refine yi_D_run 1 (7, [(0, .inl x0), (1, .inl x1), (2, .inl x2), (3, .inl x3)], [.inl 16, .inl ((x0 * 4) + x1)], (I, L, R, Y), 0, 0) (fun _ => rfl) ?_
  refine yi_D_imul rfl (((x0 * 4) + x1) * 16) (yi_wn (by omega) (by omega)) ?_
  refine yi_D_run 1 (9, [(0, .inl x0), (1, .inl x1), (2, .inl x2), (3, .inl x3)], [.inl x2, .inl (((x0 * 4) + x1) * 16)], (I, L, R, Y), 0, 0) (fun _ => rfl) ?_
  refine yi_D_iadd rfl ((((x0 * 4) + x1) * 16) + x2) (yi_wn (by omega) (by omega)) ?_
  refine yi_D_run 1 (12, [(0, .inl x0), (1, .inl x1), (2, .inl x2), (3, .inl x3)], [.inl 8, .inl ((((x0 * 4) + x1) * 16) + x2)], (I, L, R, Y), 0, 0) (fun _ => rfl) ?_
  refine yi_D_imul rfl (((((x0 * 4) + x1) * 16) + x2) * 8) (yi_wn (by omega) (by omega)) ?_
  refine yi_D_run 1 (14, [(0, .inl x0), (1, .inl x1), (2, .inl x2), (3, .inl x3)], [.inl x3, .inl (((((x0 * 4) + x1) * 16) + x2) * 8)], (I, L, R, Y), 0, 0) (fun _ => rfl) ?_
  refine yi_D_iadd rfl ((((((x0 * 4) + x1) * 16) + x2) * 8) + x3) (yi_wn (by omega) (by omega)) ?_
  refine yi_D_reti rfl ?_
  rfl
theorem q_readClauseC {d : Nat} {I L : Nat → Nat → Int} {R : Nat → Nat → Option Nat} {Y : (Nat → Nat) × (Nat → Nat) × Nat} {K P V : Nat → Int} {te b a : Nat} {ld : Nat → Int} {nm : Int → Int} (hW : mt_W I L R Y K P V te b ld nm) (hf : I 82 8 = 0) (hA : mt_A I te a) (hk : K a = 3 ∨ K a = 14 ∨ K a = 15 ∨ K a = 16 ∨ K a = 17) (hn : K a = 3 → 0 ≤ nm (V a) ∧ nm (V a) ≤ 3) {cs : List (Int × Int)} {gg : Nat → Int × Int} (hm : mc_S gg I cs) : yi_P zi_Ms d 94 [.inr (.inr (some 82))] (I, L, R, Y) (fun r => ∃ z I', r = (some (.inl z), (I', L, R, Y), 0, 0) ∧ mt_G I I' ∧ ((∃ a', sp_cl K P V ld nm a = .inl (a', z) ∧ I' 82 8 = 0 ∧ mt_A I' te a') ∨ (∃ f, sp_cl K P V ld nm a = .inr f ∧ 0 < f ∧ I' 82 8 = f))) := by
  refine yi_P_of (M := zi_m94) rfl (fun d k => ?_)
  have hS := hW.1
  have ht := hW.2.1.1
  have ha := hA.2
  have hp := hW.2.1.2.1 a hA.2
  have hd0 : I 88 (((b : Int) + 0).toNat) = ld 0 := by
    rw [show ((b : Int) + 0).toNat = b + 0 by omega]
    exact hW.2.2.2.1 0 (by omega)
  have hbb : b ≤ 50 := by rcases hW.2.2.1.2 with z | z <;> omega
  have hld0 := hW.2.2.2.2.2.2.1.1
  show yi_D zi_Ms d zi_m94 k (0, [(0, .inr (.inr (some 82)))], [], (I, L, R, Y), 0, 0) _
  refine yi_D_run 1 (1, [(0, .inr (.inr (some 82)))], [.inr (.inr (some 82))], (I, L, R, Y), 0, 0) (fun _ => rfl) ?_
  refine yi_D_gr (v := some 88) rfl rfl rfl (ym_S_at hS (j := 5) rfl).1 (fun _ => ?_)
  refine yi_D_run 1 (5, [(0, .inr (.inr (some 82)))], [.inr (.inr (some 82)), .inr (.inr (some 88))], (I, L, R, Y), 0, 0) (fun _ => rfl) ?_
  refine yi_D_gi (v := (b : Int)) rfl rfl rfl hW.2.2.1.1 (fun _ => ?_)
  refine yi_D_run 1 (9, [(0, .inr (.inr (some 82)))], [.inl 0, .inl (b : Int), .inr (.inr (some 88))], (I, L, R, Y), 0, 0) (fun _ => rfl) ?_
  refine yi_D_iadd rfl ((b : Int) + 0) (yi_wn (by omega) (by omega)) ?_
  refine yi_D_il (v := ld 0) rfl rfl hd0 (fun _ _ => ?_)
  refine yi_D_run 3 (15, [(1, .inl (ld 0)), (0, .inr (.inr (some 82)))], [.inl 12, .inr (.inr (some 82))], (I, L, R, Y), 0, 0) (fun _ => rfl) ?_
  refine yi_D_callv rfl (q_isWord_z (by omega) (by omega) hW hf hA) ?_
  rintro _ (⟨c1, rfl⟩ | ⟨c1, rfl⟩)
  · show yi_D zi_Ms d zi_m94 k (18, [(1, .inl (ld 0)), (0, .inr (.inr (some 82)))], [.inl 1], (I, L, R, Y), 0, 0) _
    refine yi_D_if1 true rfl (by decide) ?_
    refine yi_D_run 2 (33, [(1, .inl (ld 0)), (0, .inr (.inr (some 82)))], [.inl 12, .inr (.inr (some 82))], (I, L, R, Y), 0, 0) (fun _ => rfl) ?_
    refine yi_D_callv rfl (q_isWord_z (by omega) (by omega) hW hf hA) ?_
    rintro _ (⟨c2, rfl⟩ | ⟨c2, rfl⟩)
    · show yi_D zi_Ms d zi_m94 k (36, [(1, .inl (ld 0)), (0, .inr (.inr (some 82)))], [.inl 1], (I, L, R, Y), 0, 0) _
      refine yi_D_if1 false rfl (by decide) ?_
      refine yi_D_run 5 (49, [(2, .inl 7), (1, .inl (ld 0)), (0, .inr (.inr (some 82)))], [.inr (.inr (some 82)), .inr (.inr (some 82))], (I, L, R, Y), 0, 0) (fun _ => rfl) ?_
      refine yi_D_gi (v := (a : Int)) rfl rfl rfl hA.1 (fun _ => ?_)
      refine yi_D_run 1 (53, [(2, .inl 7), (1, .inl (ld 0)), (0, .inr (.inr (some 82)))], [.inl 1, .inl (a : Int), .inr (.inr (some 82))], (I, L, R, Y), 0, 0) (fun _ => rfl) ?_
      refine yi_D_iadd rfl ((a : Int) + 1) (yi_wn (by omega) (by omega)) ?_
      refine yi_D_pi rfl (fun _ => ?_)
      generalize w4 : yi_u I 82 7 ((a : Int) + 1) = I3
      have hGn5 : mt_G I I3 := fun p k hp => by rw [← w4, yi_u_ne _ _ (by omega)]
      have hW6 := mt_W_t hW (mt_G_F hGn5)
      have hF7 := (mt_G_F hGn5)
      have hG8 := hGn5
      have hmc9 := mc_G hm hGn5
      have hf10 : I3 82 8 = 0 := by rw [← w4, yi_u_ne _ _ (by omega)]; exact hf
      have hA11 : mt_A I3 te (a + 1) := ⟨by rw [← w4, yi_u_eq]; omega, mt_lt hW6.2.1 hA.2 (by omega)⟩
      refine yi_D_run 3 (60, [(2, .inl 7), (1, .inl (ld 0)), (0, .inr (.inr (some 82)))], [.inl (-1), .inl 0, .inr (.inr (some 82))], (I3, L, R, Y), 0, 0) (fun _ => rfl) ?_
      refine yi_D_callv rfl (q_takeTold0_z (bt := (-1)) hW6 hf10 hA11) ?_
      rintro _ (⟨c12, c13, c14, I15, rfl, hGa16, hf17, hA18⟩ | ⟨c19, z23, I20, rfl, hGa21, he22⟩ | ⟨c24, z28, I25, rfl, hGa26, he27⟩ | ⟨c29, z33, I30, rfl, hGa31, he32⟩)
      · have hA18 : mt_A I15 te (a + 2) := hA18
        have hW34 := mt_W_t hW6 (mt_G_F hGa16)
        have hF35 := mt_F_t hF7 (mt_G_F hGa16)
        have hG36 := mt_G_t hG8 hGa16
        have hmc37 := mc_G hmc9 hGa16
        show yi_D zi_Ms d zi_m94 k (63, [(2, .inl 7), (1, .inl (ld 0)), (0, .inr (.inr (some 82)))], [.inl (nm (V (a + 1)) - 0)], (I15, L, R, Y), 0, 0) _
        refine yi_D_run 4 (67, [(3, .inl (nm (V (a + 1)) - 0)), (2, .inl 7), (1, .inl (ld 0)), (0, .inr (.inr (some 82)))], [.inl (nm (V (a + 1)) - 0), .inl 0, .inr (.inr (some 82))], (I15, L, R, Y), 0, 0) (fun _ => rfl) ?_
        refine yi_D_callv rfl (q_takeTold0_z (bt := nm (V (a + 1)) - 0) hW34 hf17 hA18) ?_
        rintro _ (⟨c38, c39, c40, I41, rfl, hGa42, hf43, hA44⟩ | ⟨c45, z49, I46, rfl, hGa47, he48⟩ | ⟨c50, z54, I51, rfl, hGa52, he53⟩ | ⟨c55, z59, I56, rfl, hGa57, he58⟩)
        · have hA44 : mt_A I41 te (a + 3) := hA44
          have hW60 := mt_W_t hW34 (mt_G_F hGa42)
          have hF61 := mt_F_t hF35 (mt_G_F hGa42)
          have hG62 := mt_G_t hG36 hGa42
          have hmc63 := mc_G hmc37 hGa42
          show yi_D zi_Ms d zi_m94 k (70, [(3, .inl (nm (V (a + 1)) - 0)), (2, .inl 7), (1, .inl (ld 0)), (0, .inr (.inr (some 82)))], [.inl (nm (V (a + 2)) - 0)], (I41, L, R, Y), 0, 0) _
          refine yi_D_run 5 (76, [(4, .inl (nm (V (a + 2)) - 0)), (3, .inl (nm (V (a + 1)) - 0)), (2, .inl 7), (1, .inl (ld 0)), (0, .inr (.inr (some 82)))], [.inl (-1), .inl 1, .inr (.inr (some 82)), .inl (nm (V (a + 1)) - 0)], (I41, L, R, Y), 0, 0) (fun _ => rfl) ?_
          refine yi_D_callv rfl (q_takeTold1_z (bt := (-1)) hW60 hf43 hA44) ?_
          rintro _ (⟨c64, c65, c66, I67, rfl, hGa68, hf69, hA70⟩ | ⟨c71, z75, I72, rfl, hGa73, he74⟩ | ⟨c76, z80, I77, rfl, hGa78, he79⟩ | ⟨c81, z85, I82, rfl, hGa83, he84⟩)
          · have hA70 : mt_A I67 te (a + 4) := hA70
            have hW86 := mt_W_t hW60 (mt_G_F hGa68)
            have hF87 := mt_F_t hF61 (mt_G_F hGa68)
            have hG88 := mt_G_t hG62 hGa68
            have hmc89 := mc_G hmc63 hGa68
            show yi_D zi_Ms d zi_m94 k (79, [(4, .inl (nm (V (a + 2)) - 0)), (3, .inl (nm (V (a + 1)) - 0)), (2, .inl 7), (1, .inl (ld 0)), (0, .inr (.inr (some 82)))], [.inl (nm (V (a + 3)) - 4), .inl (nm (V (a + 1)) - 0)], (I67, L, R, Y), 0, 0) _
            refine yi_D_run 2 (82, [(4, .inl (nm (V (a + 2)) - 0)), (3, .inl (nm (V (a + 1)) - 0)), (2, .inl 7), (1, .inl (ld 0)), (0, .inr (.inr (some 82)))], [.inl (nm (V (a + 2)) - 0), .inl 7, .inl (nm (V (a + 3)) - 4), .inl (nm (V (a + 1)) - 0)], (I67, L, R, Y), 0, 0) (fun _ => rfl) ?_
            refine yi_D_calls rfl (q_clauseE (x0 := nm (V (a + 1)) - 0) (x1 := nm (V (a + 3)) - 4) (x2 := 7) (x3 := nm (V (a + 2)) - 0) ⟨⟨by omega, by omega⟩, ⟨by omega, by omega⟩, ⟨by omega, by omega⟩, ⟨by omega, by omega⟩⟩) ?_
            rintro _ rfl
            show yi_D zi_Ms d zi_m94 k (85, [(4, .inl (nm (V (a + 2)) - 0)), (3, .inl (nm (V (a + 1)) - 0)), (2, .inl 7), (1, .inl (ld 0)), (0, .inr (.inr (some 82)))], [.inl (sp_cc (nm (V (a + 1)) - 0) (nm (V (a + 3)) - 4) 7 (nm (V (a + 2)) - 0))], (I67, L, R, Y), 0, 0) _
            refine yi_D_reti rfl ?_
            first
            | (exfalso; omega)
            | (refine ⟨sp_cc (nm (V (a + 1))) (nm (V (a + 3)) - 4) (if K a = 16 then 7 else 8) (nm (V (a + 2))), I67, by rw [show sp_cc (nm (V (a + 1))) (nm (V (a + 3)) - 4) (if K a = 16 then 7 else 8) (nm (V (a + 2))) = sp_cc (nm (V (a + 1)) - 0) (nm (V (a + 3)) - 4) 7 (nm (V (a + 2)) - 0) from by (unfold sp_cc; (repeat (first | rw [if_pos (by omega)] | rw [if_neg (by omega)])); omega)], hG88, Or.inl ⟨_, ?_, hf69, hA70⟩⟩; unfold sp_cl; rw [if_pos (by omega)]; unfold sp_pair; (repeat (first | rw [if_pos (by omega)] | rw [if_neg (by omega)])); done)
            | (refine ⟨sp_cc (if K a = 14 then 4 else if K a = 15 then 5 else nm (V a)) (nm (V (a + 1)) - 4) (K (a + 2) - 18) (V (a + 3)), I67, by rw [show sp_cc (if K a = 14 then 4 else if K a = 15 then 5 else nm (V a)) (nm (V (a + 1)) - 4) (K (a + 2) - 18) (V (a + 3)) = sp_cc (nm (V (a + 1)) - 0) (nm (V (a + 3)) - 4) 7 (nm (V (a + 2)) - 0) from by (unfold sp_cc; (repeat (first | rw [if_pos (by omega)] | rw [if_neg (by omega)])); omega)], hG88, Or.inl ⟨_, ?_, hf69, hA70⟩⟩; unfold sp_cl; rw [if_neg (by omega)]; unfold sp_single; (repeat (first | rw [if_pos (by omega)] | rw [if_neg (by omega)])); done)
          · have hW90 := mt_W_t hW60 (mt_G_F hGa73)
            have hF91 := mt_F_t hF61 (mt_G_F hGa73)
            have hG92 := mt_G_t hG62 hGa73
            have hmc93 := mc_G hmc63 hGa73
            have hz94 : 0 < sp_f P (a + 3) 1 := mt_f_ne hW60 hA44.2 (by omega)
            have hn95 : 0 < I72 82 8 := by rw [he74]; exact hz94
            have hx96 : sp_cl K P V ld nm a = .inr (sp_f P (a + 3) 1) := by
              first
              | (exfalso; omega)
              | (unfold sp_cl; rw [if_pos (by omega)]; unfold sp_pair; (repeat (first | rw [if_pos (by omega)] | rw [if_neg (by omega)])); done)
              | (unfold sp_cl; rw [if_neg (by omega)]; unfold sp_single; (repeat (first | rw [if_pos (by omega)] | rw [if_neg (by omega)])); done)
            show yi_D zi_Ms d zi_m94 k (79, [(4, .inl (nm (V (a + 2)) - 0)), (3, .inl (nm (V (a + 1)) - 0)), (2, .inl 7), (1, .inl (ld 0)), (0, .inr (.inr (some 82)))], [.inl z75, .inl (nm (V (a + 1)) - 0)], (I72, L, R, Y), 0, 0) _
            refine yi_D_run 2 (82, [(4, .inl (nm (V (a + 2)) - 0)), (3, .inl (nm (V (a + 1)) - 0)), (2, .inl 7), (1, .inl (ld 0)), (0, .inr (.inr (some 82)))], [.inl (nm (V (a + 2)) - 0), .inl 7, .inl z75, .inl (nm (V (a + 1)) - 0)], (I72, L, R, Y), 0, 0) (fun _ => rfl) ?_
            refine yi_D_calls rfl (q_clause) ?_
            rintro _ ⟨zc, rfl⟩
            show yi_D zi_Ms d zi_m94 k (85, [(4, .inl (nm (V (a + 2)) - 0)), (3, .inl (nm (V (a + 1)) - 0)), (2, .inl 7), (1, .inl (ld 0)), (0, .inr (.inr (some 82)))], [.inl zc], (I72, L, R, Y), 0, 0) _
            refine yi_D_reti rfl ?_
            exact ⟨_, _, rfl, hG92, Or.inr ⟨_, hx96, hz94, he74⟩⟩
          · have hW97 := mt_W_t hW60 (mt_G_F hGa78)
            have hF98 := mt_F_t hF61 (mt_G_F hGa78)
            have hG99 := mt_G_t hG62 hGa78
            have hmc100 := mc_G hmc63 hGa78
            have hz101 : 0 < sp_f P (a + 3) 2 := mt_f_ne hW60 hA44.2 (by omega)
            have hn102 : 0 < I77 82 8 := by rw [he79]; exact hz101
            have hx103 : sp_cl K P V ld nm a = .inr (sp_f P (a + 3) 2) := by
              first
              | (exfalso; omega)
              | (unfold sp_cl; rw [if_pos (by omega)]; unfold sp_pair; (repeat (first | rw [if_pos (by omega)] | rw [if_neg (by omega)])); done)
              | (unfold sp_cl; rw [if_neg (by omega)]; unfold sp_single; (repeat (first | rw [if_pos (by omega)] | rw [if_neg (by omega)])); done)
            show yi_D zi_Ms d zi_m94 k (79, [(4, .inl (nm (V (a + 2)) - 0)), (3, .inl (nm (V (a + 1)) - 0)), (2, .inl 7), (1, .inl (ld 0)), (0, .inr (.inr (some 82)))], [.inl z80, .inl (nm (V (a + 1)) - 0)], (I77, L, R, Y), 0, 0) _
            refine yi_D_run 2 (82, [(4, .inl (nm (V (a + 2)) - 0)), (3, .inl (nm (V (a + 1)) - 0)), (2, .inl 7), (1, .inl (ld 0)), (0, .inr (.inr (some 82)))], [.inl (nm (V (a + 2)) - 0), .inl 7, .inl z80, .inl (nm (V (a + 1)) - 0)], (I77, L, R, Y), 0, 0) (fun _ => rfl) ?_
            refine yi_D_calls rfl (q_clause) ?_
            rintro _ ⟨zc, rfl⟩
            show yi_D zi_Ms d zi_m94 k (85, [(4, .inl (nm (V (a + 2)) - 0)), (3, .inl (nm (V (a + 1)) - 0)), (2, .inl 7), (1, .inl (ld 0)), (0, .inr (.inr (some 82)))], [.inl zc], (I77, L, R, Y), 0, 0) _
            refine yi_D_reti rfl ?_
            exact ⟨_, _, rfl, hG99, Or.inr ⟨_, hx103, hz101, he79⟩⟩
          · have hW104 := mt_W_t hW60 (mt_G_F hGa83)
            have hF105 := mt_F_t hF61 (mt_G_F hGa83)
            have hG106 := mt_G_t hG62 hGa83
            have hmc107 := mc_G hmc63 hGa83
            have hz108 : 0 < sp_f P (a + 3) 3 := mt_f_ne hW60 hA44.2 (by omega)
            have hn109 : 0 < I82 82 8 := by rw [he84]; exact hz108
            have hx110 : sp_cl K P V ld nm a = .inr (sp_f P (a + 3) 3) := by
              first
              | (exfalso; omega)
              | (unfold sp_cl; rw [if_pos (by omega)]; unfold sp_pair; (repeat (first | rw [if_pos (by omega)] | rw [if_neg (by omega)])); done)
              | (unfold sp_cl; rw [if_neg (by omega)]; unfold sp_single; (repeat (first | rw [if_pos (by omega)] | rw [if_neg (by omega)])); done)
            show yi_D zi_Ms d zi_m94 k (79, [(4, .inl (nm (V (a + 2)) - 0)), (3, .inl (nm (V (a + 1)) - 0)), (2, .inl 7), (1, .inl (ld 0)), (0, .inr (.inr (some 82)))], [.inl z85, .inl (nm (V (a + 1)) - 0)], (I82, L, R, Y), 0, 0) _
            refine yi_D_run 2 (82, [(4, .inl (nm (V (a + 2)) - 0)), (3, .inl (nm (V (a + 1)) - 0)), (2, .inl 7), (1, .inl (ld 0)), (0, .inr (.inr (some 82)))], [.inl (nm (V (a + 2)) - 0), .inl 7, .inl z85, .inl (nm (V (a + 1)) - 0)], (I82, L, R, Y), 0, 0) (fun _ => rfl) ?_
            refine yi_D_calls rfl (q_clause) ?_
            rintro _ ⟨zc, rfl⟩
            show yi_D zi_Ms d zi_m94 k (85, [(4, .inl (nm (V (a + 2)) - 0)), (3, .inl (nm (V (a + 1)) - 0)), (2, .inl 7), (1, .inl (ld 0)), (0, .inr (.inr (some 82)))], [.inl zc], (I82, L, R, Y), 0, 0) _
            refine yi_D_reti rfl ?_
            exact ⟨_, _, rfl, hG106, Or.inr ⟨_, hx110, hz108, he84⟩⟩
        · have hW111 := mt_W_t hW34 (mt_G_F hGa47)
          have hF112 := mt_F_t hF35 (mt_G_F hGa47)
          have hG113 := mt_G_t hG36 hGa47
          have hmc114 := mc_G hmc37 hGa47
          have hz115 : 0 < sp_f P (a + 2) 1 := mt_f_ne hW34 hA18.2 (by omega)
          have hn116 : 0 < I46 82 8 := by rw [he48]; exact hz115
          have hx117 : sp_cl K P V ld nm a = .inr (sp_f P (a + 2) 1) := by
            first
            | (exfalso; omega)
            | (unfold sp_cl; rw [if_pos (by omega)]; unfold sp_pair; (repeat (first | rw [if_pos (by omega)] | rw [if_neg (by omega)])); done)
            | (unfold sp_cl; rw [if_neg (by omega)]; unfold sp_single; (repeat (first | rw [if_pos (by omega)] | rw [if_neg (by omega)])); done)
          show yi_D zi_Ms d zi_m94 k (70, [(3, .inl (nm (V (a + 1)) - 0)), (2, .inl 7), (1, .inl (ld 0)), (0, .inr (.inr (some 82)))], [.inl z49], (I46, L, R, Y), 0, 0) _
          refine yi_D_run 5 (76, [(4, .inl z49), (3, .inl (nm (V (a + 1)) - 0)), (2, .inl 7), (1, .inl (ld 0)), (0, .inr (.inr (some 82)))], [.inl (-1), .inl 1, .inr (.inr (some 82)), .inl (nm (V (a + 1)) - 0)], (I46, L, R, Y), 0, 0) (fun _ => rfl) ?_
          refine yi_D_callv rfl (q_takeTold1_f hW111 hn116) ?_
          rintro _ ⟨z118, rfl⟩
          show yi_D zi_Ms d zi_m94 k (79, [(4, .inl z49), (3, .inl (nm (V (a + 1)) - 0)), (2, .inl 7), (1, .inl (ld 0)), (0, .inr (.inr (some 82)))], [.inl z118, .inl (nm (V (a + 1)) - 0)], (I46, L, R, Y), 0, 0) _
          refine yi_D_run 2 (82, [(4, .inl z49), (3, .inl (nm (V (a + 1)) - 0)), (2, .inl 7), (1, .inl (ld 0)), (0, .inr (.inr (some 82)))], [.inl z49, .inl 7, .inl z118, .inl (nm (V (a + 1)) - 0)], (I46, L, R, Y), 0, 0) (fun _ => rfl) ?_
          refine yi_D_calls rfl (q_clause) ?_
          rintro _ ⟨zc, rfl⟩
          show yi_D zi_Ms d zi_m94 k (85, [(4, .inl z49), (3, .inl (nm (V (a + 1)) - 0)), (2, .inl 7), (1, .inl (ld 0)), (0, .inr (.inr (some 82)))], [.inl zc], (I46, L, R, Y), 0, 0) _
          refine yi_D_reti rfl ?_
          exact ⟨_, _, rfl, hG113, Or.inr ⟨_, hx117, hz115, he48⟩⟩
        · have hW119 := mt_W_t hW34 (mt_G_F hGa52)
          have hF120 := mt_F_t hF35 (mt_G_F hGa52)
          have hG121 := mt_G_t hG36 hGa52
          have hmc122 := mc_G hmc37 hGa52
          have hz123 : 0 < sp_f P (a + 2) 2 := mt_f_ne hW34 hA18.2 (by omega)
          have hn124 : 0 < I51 82 8 := by rw [he53]; exact hz123
          have hx125 : sp_cl K P V ld nm a = .inr (sp_f P (a + 2) 2) := by
            first
            | (exfalso; omega)
            | (unfold sp_cl; rw [if_pos (by omega)]; unfold sp_pair; (repeat (first | rw [if_pos (by omega)] | rw [if_neg (by omega)])); done)
            | (unfold sp_cl; rw [if_neg (by omega)]; unfold sp_single; (repeat (first | rw [if_pos (by omega)] | rw [if_neg (by omega)])); done)
          show yi_D zi_Ms d zi_m94 k (70, [(3, .inl (nm (V (a + 1)) - 0)), (2, .inl 7), (1, .inl (ld 0)), (0, .inr (.inr (some 82)))], [.inl z54], (I51, L, R, Y), 0, 0) _
          refine yi_D_run 5 (76, [(4, .inl z54), (3, .inl (nm (V (a + 1)) - 0)), (2, .inl 7), (1, .inl (ld 0)), (0, .inr (.inr (some 82)))], [.inl (-1), .inl 1, .inr (.inr (some 82)), .inl (nm (V (a + 1)) - 0)], (I51, L, R, Y), 0, 0) (fun _ => rfl) ?_
          refine yi_D_callv rfl (q_takeTold1_f hW119 hn124) ?_
          rintro _ ⟨z126, rfl⟩
          show yi_D zi_Ms d zi_m94 k (79, [(4, .inl z54), (3, .inl (nm (V (a + 1)) - 0)), (2, .inl 7), (1, .inl (ld 0)), (0, .inr (.inr (some 82)))], [.inl z126, .inl (nm (V (a + 1)) - 0)], (I51, L, R, Y), 0, 0) _
          refine yi_D_run 2 (82, [(4, .inl z54), (3, .inl (nm (V (a + 1)) - 0)), (2, .inl 7), (1, .inl (ld 0)), (0, .inr (.inr (some 82)))], [.inl z54, .inl 7, .inl z126, .inl (nm (V (a + 1)) - 0)], (I51, L, R, Y), 0, 0) (fun _ => rfl) ?_
          refine yi_D_calls rfl (q_clause) ?_
          rintro _ ⟨zc, rfl⟩
          show yi_D zi_Ms d zi_m94 k (85, [(4, .inl z54), (3, .inl (nm (V (a + 1)) - 0)), (2, .inl 7), (1, .inl (ld 0)), (0, .inr (.inr (some 82)))], [.inl zc], (I51, L, R, Y), 0, 0) _
          refine yi_D_reti rfl ?_
          exact ⟨_, _, rfl, hG121, Or.inr ⟨_, hx125, hz123, he53⟩⟩
        · have hW127 := mt_W_t hW34 (mt_G_F hGa57)
          have hF128 := mt_F_t hF35 (mt_G_F hGa57)
          have hG129 := mt_G_t hG36 hGa57
          have hmc130 := mc_G hmc37 hGa57
          have hz131 : 0 < sp_f P (a + 2) 3 := mt_f_ne hW34 hA18.2 (by omega)
          have hn132 : 0 < I56 82 8 := by rw [he58]; exact hz131
          have hx133 : sp_cl K P V ld nm a = .inr (sp_f P (a + 2) 3) := by
            first
            | (exfalso; omega)
            | (unfold sp_cl; rw [if_pos (by omega)]; unfold sp_pair; (repeat (first | rw [if_pos (by omega)] | rw [if_neg (by omega)])); done)
            | (unfold sp_cl; rw [if_neg (by omega)]; unfold sp_single; (repeat (first | rw [if_pos (by omega)] | rw [if_neg (by omega)])); done)
          show yi_D zi_Ms d zi_m94 k (70, [(3, .inl (nm (V (a + 1)) - 0)), (2, .inl 7), (1, .inl (ld 0)), (0, .inr (.inr (some 82)))], [.inl z59], (I56, L, R, Y), 0, 0) _
          refine yi_D_run 5 (76, [(4, .inl z59), (3, .inl (nm (V (a + 1)) - 0)), (2, .inl 7), (1, .inl (ld 0)), (0, .inr (.inr (some 82)))], [.inl (-1), .inl 1, .inr (.inr (some 82)), .inl (nm (V (a + 1)) - 0)], (I56, L, R, Y), 0, 0) (fun _ => rfl) ?_
          refine yi_D_callv rfl (q_takeTold1_f hW127 hn132) ?_
          rintro _ ⟨z134, rfl⟩
          show yi_D zi_Ms d zi_m94 k (79, [(4, .inl z59), (3, .inl (nm (V (a + 1)) - 0)), (2, .inl 7), (1, .inl (ld 0)), (0, .inr (.inr (some 82)))], [.inl z134, .inl (nm (V (a + 1)) - 0)], (I56, L, R, Y), 0, 0) _
          refine yi_D_run 2 (82, [(4, .inl z59), (3, .inl (nm (V (a + 1)) - 0)), (2, .inl 7), (1, .inl (ld 0)), (0, .inr (.inr (some 82)))], [.inl z59, .inl 7, .inl z134, .inl (nm (V (a + 1)) - 0)], (I56, L, R, Y), 0, 0) (fun _ => rfl) ?_
          refine yi_D_calls rfl (q_clause) ?_
          rintro _ ⟨zc, rfl⟩
          show yi_D zi_Ms d zi_m94 k (85, [(4, .inl z59), (3, .inl (nm (V (a + 1)) - 0)), (2, .inl 7), (1, .inl (ld 0)), (0, .inr (.inr (some 82)))], [.inl zc], (I56, L, R, Y), 0, 0) _
          refine yi_D_reti rfl ?_
          exact ⟨_, _, rfl, hG129, Or.inr ⟨_, hx133, hz131, he58⟩⟩
      · have hW135 := mt_W_t hW6 (mt_G_F hGa21)
        have hF136 := mt_F_t hF7 (mt_G_F hGa21)
        have hG137 := mt_G_t hG8 hGa21
        have hmc138 := mc_G hmc9 hGa21
        have hz139 : 0 < sp_f P (a + 1) 1 := mt_f_ne hW6 hA11.2 (by omega)
        have hn140 : 0 < I20 82 8 := by rw [he22]; exact hz139
        have hx141 : sp_cl K P V ld nm a = .inr (sp_f P (a + 1) 1) := by
          first
          | (exfalso; omega)
          | (unfold sp_cl; rw [if_pos (by omega)]; unfold sp_pair; (repeat (first | rw [if_pos (by omega)] | rw [if_neg (by omega)])); done)
          | (unfold sp_cl; rw [if_neg (by omega)]; unfold sp_single; (repeat (first | rw [if_pos (by omega)] | rw [if_neg (by omega)])); done)
        show yi_D zi_Ms d zi_m94 k (63, [(2, .inl 7), (1, .inl (ld 0)), (0, .inr (.inr (some 82)))], [.inl z23], (I20, L, R, Y), 0, 0) _
        refine yi_D_run 4 (67, [(3, .inl z23), (2, .inl 7), (1, .inl (ld 0)), (0, .inr (.inr (some 82)))], [.inl z23, .inl 0, .inr (.inr (some 82))], (I20, L, R, Y), 0, 0) (fun _ => rfl) ?_
        refine yi_D_callv rfl (q_takeTold0_f hW135 hn140) ?_
        rintro _ ⟨z142, rfl⟩
        show yi_D zi_Ms d zi_m94 k (70, [(3, .inl z23), (2, .inl 7), (1, .inl (ld 0)), (0, .inr (.inr (some 82)))], [.inl z142], (I20, L, R, Y), 0, 0) _
        refine yi_D_run 5 (76, [(4, .inl z142), (3, .inl z23), (2, .inl 7), (1, .inl (ld 0)), (0, .inr (.inr (some 82)))], [.inl (-1), .inl 1, .inr (.inr (some 82)), .inl z23], (I20, L, R, Y), 0, 0) (fun _ => rfl) ?_
        refine yi_D_callv rfl (q_takeTold1_f hW135 hn140) ?_
        rintro _ ⟨z143, rfl⟩
        show yi_D zi_Ms d zi_m94 k (79, [(4, .inl z142), (3, .inl z23), (2, .inl 7), (1, .inl (ld 0)), (0, .inr (.inr (some 82)))], [.inl z143, .inl z23], (I20, L, R, Y), 0, 0) _
        refine yi_D_run 2 (82, [(4, .inl z142), (3, .inl z23), (2, .inl 7), (1, .inl (ld 0)), (0, .inr (.inr (some 82)))], [.inl z142, .inl 7, .inl z143, .inl z23], (I20, L, R, Y), 0, 0) (fun _ => rfl) ?_
        refine yi_D_calls rfl (q_clause) ?_
        rintro _ ⟨zc, rfl⟩
        show yi_D zi_Ms d zi_m94 k (85, [(4, .inl z142), (3, .inl z23), (2, .inl 7), (1, .inl (ld 0)), (0, .inr (.inr (some 82)))], [.inl zc], (I20, L, R, Y), 0, 0) _
        refine yi_D_reti rfl ?_
        exact ⟨_, _, rfl, hG137, Or.inr ⟨_, hx141, hz139, he22⟩⟩
      · have hW144 := mt_W_t hW6 (mt_G_F hGa26)
        have hF145 := mt_F_t hF7 (mt_G_F hGa26)
        have hG146 := mt_G_t hG8 hGa26
        have hmc147 := mc_G hmc9 hGa26
        have hz148 : 0 < sp_f P (a + 1) 2 := mt_f_ne hW6 hA11.2 (by omega)
        have hn149 : 0 < I25 82 8 := by rw [he27]; exact hz148
        have hx150 : sp_cl K P V ld nm a = .inr (sp_f P (a + 1) 2) := by
          first
          | (exfalso; omega)
          | (unfold sp_cl; rw [if_pos (by omega)]; unfold sp_pair; (repeat (first | rw [if_pos (by omega)] | rw [if_neg (by omega)])); done)
          | (unfold sp_cl; rw [if_neg (by omega)]; unfold sp_single; (repeat (first | rw [if_pos (by omega)] | rw [if_neg (by omega)])); done)
        show yi_D zi_Ms d zi_m94 k (63, [(2, .inl 7), (1, .inl (ld 0)), (0, .inr (.inr (some 82)))], [.inl z28], (I25, L, R, Y), 0, 0) _
        refine yi_D_run 4 (67, [(3, .inl z28), (2, .inl 7), (1, .inl (ld 0)), (0, .inr (.inr (some 82)))], [.inl z28, .inl 0, .inr (.inr (some 82))], (I25, L, R, Y), 0, 0) (fun _ => rfl) ?_
        refine yi_D_callv rfl (q_takeTold0_f hW144 hn149) ?_
        rintro _ ⟨z151, rfl⟩
        show yi_D zi_Ms d zi_m94 k (70, [(3, .inl z28), (2, .inl 7), (1, .inl (ld 0)), (0, .inr (.inr (some 82)))], [.inl z151], (I25, L, R, Y), 0, 0) _
        refine yi_D_run 5 (76, [(4, .inl z151), (3, .inl z28), (2, .inl 7), (1, .inl (ld 0)), (0, .inr (.inr (some 82)))], [.inl (-1), .inl 1, .inr (.inr (some 82)), .inl z28], (I25, L, R, Y), 0, 0) (fun _ => rfl) ?_
        refine yi_D_callv rfl (q_takeTold1_f hW144 hn149) ?_
        rintro _ ⟨z152, rfl⟩
        show yi_D zi_Ms d zi_m94 k (79, [(4, .inl z151), (3, .inl z28), (2, .inl 7), (1, .inl (ld 0)), (0, .inr (.inr (some 82)))], [.inl z152, .inl z28], (I25, L, R, Y), 0, 0) _
        refine yi_D_run 2 (82, [(4, .inl z151), (3, .inl z28), (2, .inl 7), (1, .inl (ld 0)), (0, .inr (.inr (some 82)))], [.inl z151, .inl 7, .inl z152, .inl z28], (I25, L, R, Y), 0, 0) (fun _ => rfl) ?_
        refine yi_D_calls rfl (q_clause) ?_
        rintro _ ⟨zc, rfl⟩
        show yi_D zi_Ms d zi_m94 k (85, [(4, .inl z151), (3, .inl z28), (2, .inl 7), (1, .inl (ld 0)), (0, .inr (.inr (some 82)))], [.inl zc], (I25, L, R, Y), 0, 0) _
        refine yi_D_reti rfl ?_
        exact ⟨_, _, rfl, hG146, Or.inr ⟨_, hx150, hz148, he27⟩⟩
      · have hW153 := mt_W_t hW6 (mt_G_F hGa31)
        have hF154 := mt_F_t hF7 (mt_G_F hGa31)
        have hG155 := mt_G_t hG8 hGa31
        have hmc156 := mc_G hmc9 hGa31
        have hz157 : 0 < sp_f P (a + 1) 3 := mt_f_ne hW6 hA11.2 (by omega)
        have hn158 : 0 < I30 82 8 := by rw [he32]; exact hz157
        have hx159 : sp_cl K P V ld nm a = .inr (sp_f P (a + 1) 3) := by
          first
          | (exfalso; omega)
          | (unfold sp_cl; rw [if_pos (by omega)]; unfold sp_pair; (repeat (first | rw [if_pos (by omega)] | rw [if_neg (by omega)])); done)
          | (unfold sp_cl; rw [if_neg (by omega)]; unfold sp_single; (repeat (first | rw [if_pos (by omega)] | rw [if_neg (by omega)])); done)
        show yi_D zi_Ms d zi_m94 k (63, [(2, .inl 7), (1, .inl (ld 0)), (0, .inr (.inr (some 82)))], [.inl z33], (I30, L, R, Y), 0, 0) _
        refine yi_D_run 4 (67, [(3, .inl z33), (2, .inl 7), (1, .inl (ld 0)), (0, .inr (.inr (some 82)))], [.inl z33, .inl 0, .inr (.inr (some 82))], (I30, L, R, Y), 0, 0) (fun _ => rfl) ?_
        refine yi_D_callv rfl (q_takeTold0_f hW153 hn158) ?_
        rintro _ ⟨z160, rfl⟩
        show yi_D zi_Ms d zi_m94 k (70, [(3, .inl z33), (2, .inl 7), (1, .inl (ld 0)), (0, .inr (.inr (some 82)))], [.inl z160], (I30, L, R, Y), 0, 0) _
        refine yi_D_run 5 (76, [(4, .inl z160), (3, .inl z33), (2, .inl 7), (1, .inl (ld 0)), (0, .inr (.inr (some 82)))], [.inl (-1), .inl 1, .inr (.inr (some 82)), .inl z33], (I30, L, R, Y), 0, 0) (fun _ => rfl) ?_
        refine yi_D_callv rfl (q_takeTold1_f hW153 hn158) ?_
        rintro _ ⟨z161, rfl⟩
        show yi_D zi_Ms d zi_m94 k (79, [(4, .inl z160), (3, .inl z33), (2, .inl 7), (1, .inl (ld 0)), (0, .inr (.inr (some 82)))], [.inl z161, .inl z33], (I30, L, R, Y), 0, 0) _
        refine yi_D_run 2 (82, [(4, .inl z160), (3, .inl z33), (2, .inl 7), (1, .inl (ld 0)), (0, .inr (.inr (some 82)))], [.inl z160, .inl 7, .inl z161, .inl z33], (I30, L, R, Y), 0, 0) (fun _ => rfl) ?_
        refine yi_D_calls rfl (q_clause) ?_
        rintro _ ⟨zc, rfl⟩
        show yi_D zi_Ms d zi_m94 k (85, [(4, .inl z160), (3, .inl z33), (2, .inl 7), (1, .inl (ld 0)), (0, .inr (.inr (some 82)))], [.inl zc], (I30, L, R, Y), 0, 0) _
        refine yi_D_reti rfl ?_
        exact ⟨_, _, rfl, hG155, Or.inr ⟨_, hx159, hz157, he32⟩⟩
    · exfalso; omega
  · show yi_D zi_Ms d zi_m94 k (18, [(1, .inl (ld 0)), (0, .inr (.inr (some 82)))], [.inl 0], (I, L, R, Y), 0, 0) _
    refine yi_D_if1 false rfl (by decide) ?_
    refine yi_D_run 2 (24, [(1, .inl (ld 0)), (0, .inr (.inr (some 82)))], [.inl 13, .inr (.inr (some 82))], (I, L, R, Y), 0, 0) (fun _ => rfl) ?_
    refine yi_D_callv rfl (q_isWord_z (by omega) (by omega) hW hf hA) ?_
    rintro _ (⟨c162, rfl⟩ | ⟨c162, rfl⟩)
    · show yi_D zi_Ms d zi_m94 k (27, [(1, .inl (ld 0)), (0, .inr (.inr (some 82)))], [.inl 1], (I, L, R, Y), 0, 0) _
      refine yi_D_if1 false rfl (by decide) ?_
      refine yi_D_run 2 (33, [(1, .inl (ld 0)), (0, .inr (.inr (some 82)))], [.inl 12, .inr (.inr (some 82))], (I, L, R, Y), 0, 0) (fun _ => rfl) ?_
      refine yi_D_callv rfl (q_isWord_z (by omega) (by omega) hW hf hA) ?_
      rintro _ (⟨c163, rfl⟩ | ⟨c163, rfl⟩)
      · exfalso; omega
      · show yi_D zi_Ms d zi_m94 k (36, [(1, .inl (ld 0)), (0, .inr (.inr (some 82)))], [.inl 0], (I, L, R, Y), 0, 0) _
        refine yi_D_if1 true rfl (by decide) ?_
        refine yi_D_run 4 (49, [(2, .inl 8), (1, .inl (ld 0)), (0, .inr (.inr (some 82)))], [.inr (.inr (some 82)), .inr (.inr (some 82))], (I, L, R, Y), 0, 0) (fun _ => rfl) ?_
        refine yi_D_gi (v := (a : Int)) rfl rfl rfl hA.1 (fun _ => ?_)
        refine yi_D_run 1 (53, [(2, .inl 8), (1, .inl (ld 0)), (0, .inr (.inr (some 82)))], [.inl 1, .inl (a : Int), .inr (.inr (some 82))], (I, L, R, Y), 0, 0) (fun _ => rfl) ?_
        refine yi_D_iadd rfl ((a : Int) + 1) (yi_wn (by omega) (by omega)) ?_
        refine yi_D_pi rfl (fun _ => ?_)
        generalize w165 : yi_u I 82 7 ((a : Int) + 1) = I164
        have hGn166 : mt_G I I164 := fun p k hp => by rw [← w165, yi_u_ne _ _ (by omega)]
        have hW167 := mt_W_t hW (mt_G_F hGn166)
        have hF168 := (mt_G_F hGn166)
        have hG169 := hGn166
        have hmc170 := mc_G hm hGn166
        have hf171 : I164 82 8 = 0 := by rw [← w165, yi_u_ne _ _ (by omega)]; exact hf
        have hA172 : mt_A I164 te (a + 1) := ⟨by rw [← w165, yi_u_eq]; omega, mt_lt hW167.2.1 hA.2 (by omega)⟩
        refine yi_D_run 3 (60, [(2, .inl 8), (1, .inl (ld 0)), (0, .inr (.inr (some 82)))], [.inl (-1), .inl 0, .inr (.inr (some 82))], (I164, L, R, Y), 0, 0) (fun _ => rfl) ?_
        refine yi_D_callv rfl (q_takeTold0_z (bt := (-1)) hW167 hf171 hA172) ?_
        rintro _ (⟨c173, c174, c175, I176, rfl, hGa177, hf178, hA179⟩ | ⟨c180, z184, I181, rfl, hGa182, he183⟩ | ⟨c185, z189, I186, rfl, hGa187, he188⟩ | ⟨c190, z194, I191, rfl, hGa192, he193⟩)
        · have hA179 : mt_A I176 te (a + 2) := hA179
          have hW195 := mt_W_t hW167 (mt_G_F hGa177)
          have hF196 := mt_F_t hF168 (mt_G_F hGa177)
          have hG197 := mt_G_t hG169 hGa177
          have hmc198 := mc_G hmc170 hGa177
          show yi_D zi_Ms d zi_m94 k (63, [(2, .inl 8), (1, .inl (ld 0)), (0, .inr (.inr (some 82)))], [.inl (nm (V (a + 1)) - 0)], (I176, L, R, Y), 0, 0) _
          refine yi_D_run 4 (67, [(3, .inl (nm (V (a + 1)) - 0)), (2, .inl 8), (1, .inl (ld 0)), (0, .inr (.inr (some 82)))], [.inl (nm (V (a + 1)) - 0), .inl 0, .inr (.inr (some 82))], (I176, L, R, Y), 0, 0) (fun _ => rfl) ?_
          refine yi_D_callv rfl (q_takeTold0_z (bt := nm (V (a + 1)) - 0) hW195 hf178 hA179) ?_
          rintro _ (⟨c199, c200, c201, I202, rfl, hGa203, hf204, hA205⟩ | ⟨c206, z210, I207, rfl, hGa208, he209⟩ | ⟨c211, z215, I212, rfl, hGa213, he214⟩ | ⟨c216, z220, I217, rfl, hGa218, he219⟩)
          · have hA205 : mt_A I202 te (a + 3) := hA205
            have hW221 := mt_W_t hW195 (mt_G_F hGa203)
            have hF222 := mt_F_t hF196 (mt_G_F hGa203)
            have hG223 := mt_G_t hG197 hGa203
            have hmc224 := mc_G hmc198 hGa203
            show yi_D zi_Ms d zi_m94 k (70, [(3, .inl (nm (V (a + 1)) - 0)), (2, .inl 8), (1, .inl (ld 0)), (0, .inr (.inr (some 82)))], [.inl (nm (V (a + 2)) - 0)], (I202, L, R, Y), 0, 0) _
            refine yi_D_run 5 (76, [(4, .inl (nm (V (a + 2)) - 0)), (3, .inl (nm (V (a + 1)) - 0)), (2, .inl 8), (1, .inl (ld 0)), (0, .inr (.inr (some 82)))], [.inl (-1), .inl 1, .inr (.inr (some 82)), .inl (nm (V (a + 1)) - 0)], (I202, L, R, Y), 0, 0) (fun _ => rfl) ?_
            refine yi_D_callv rfl (q_takeTold1_z (bt := (-1)) hW221 hf204 hA205) ?_
            rintro _ (⟨c225, c226, c227, I228, rfl, hGa229, hf230, hA231⟩ | ⟨c232, z236, I233, rfl, hGa234, he235⟩ | ⟨c237, z241, I238, rfl, hGa239, he240⟩ | ⟨c242, z246, I243, rfl, hGa244, he245⟩)
            · have hA231 : mt_A I228 te (a + 4) := hA231
              have hW247 := mt_W_t hW221 (mt_G_F hGa229)
              have hF248 := mt_F_t hF222 (mt_G_F hGa229)
              have hG249 := mt_G_t hG223 hGa229
              have hmc250 := mc_G hmc224 hGa229
              show yi_D zi_Ms d zi_m94 k (79, [(4, .inl (nm (V (a + 2)) - 0)), (3, .inl (nm (V (a + 1)) - 0)), (2, .inl 8), (1, .inl (ld 0)), (0, .inr (.inr (some 82)))], [.inl (nm (V (a + 3)) - 4), .inl (nm (V (a + 1)) - 0)], (I228, L, R, Y), 0, 0) _
              refine yi_D_run 2 (82, [(4, .inl (nm (V (a + 2)) - 0)), (3, .inl (nm (V (a + 1)) - 0)), (2, .inl 8), (1, .inl (ld 0)), (0, .inr (.inr (some 82)))], [.inl (nm (V (a + 2)) - 0), .inl 8, .inl (nm (V (a + 3)) - 4), .inl (nm (V (a + 1)) - 0)], (I228, L, R, Y), 0, 0) (fun _ => rfl) ?_
              refine yi_D_calls rfl (q_clauseE (x0 := nm (V (a + 1)) - 0) (x1 := nm (V (a + 3)) - 4) (x2 := 8) (x3 := nm (V (a + 2)) - 0) ⟨⟨by omega, by omega⟩, ⟨by omega, by omega⟩, ⟨by omega, by omega⟩, ⟨by omega, by omega⟩⟩) ?_
              rintro _ rfl
              show yi_D zi_Ms d zi_m94 k (85, [(4, .inl (nm (V (a + 2)) - 0)), (3, .inl (nm (V (a + 1)) - 0)), (2, .inl 8), (1, .inl (ld 0)), (0, .inr (.inr (some 82)))], [.inl (sp_cc (nm (V (a + 1)) - 0) (nm (V (a + 3)) - 4) 8 (nm (V (a + 2)) - 0))], (I228, L, R, Y), 0, 0) _
              refine yi_D_reti rfl ?_
              first
              | (exfalso; omega)
              | (refine ⟨sp_cc (nm (V (a + 1))) (nm (V (a + 3)) - 4) (if K a = 16 then 7 else 8) (nm (V (a + 2))), I228, by rw [show sp_cc (nm (V (a + 1))) (nm (V (a + 3)) - 4) (if K a = 16 then 7 else 8) (nm (V (a + 2))) = sp_cc (nm (V (a + 1)) - 0) (nm (V (a + 3)) - 4) 8 (nm (V (a + 2)) - 0) from by (unfold sp_cc; (repeat (first | rw [if_pos (by omega)] | rw [if_neg (by omega)])); omega)], hG249, Or.inl ⟨_, ?_, hf230, hA231⟩⟩; unfold sp_cl; rw [if_pos (by omega)]; unfold sp_pair; (repeat (first | rw [if_pos (by omega)] | rw [if_neg (by omega)])); done)
              | (refine ⟨sp_cc (if K a = 14 then 4 else if K a = 15 then 5 else nm (V a)) (nm (V (a + 1)) - 4) (K (a + 2) - 18) (V (a + 3)), I228, by rw [show sp_cc (if K a = 14 then 4 else if K a = 15 then 5 else nm (V a)) (nm (V (a + 1)) - 4) (K (a + 2) - 18) (V (a + 3)) = sp_cc (nm (V (a + 1)) - 0) (nm (V (a + 3)) - 4) 8 (nm (V (a + 2)) - 0) from by (unfold sp_cc; (repeat (first | rw [if_pos (by omega)] | rw [if_neg (by omega)])); omega)], hG249, Or.inl ⟨_, ?_, hf230, hA231⟩⟩; unfold sp_cl; rw [if_neg (by omega)]; unfold sp_single; (repeat (first | rw [if_pos (by omega)] | rw [if_neg (by omega)])); done)
            · have hW251 := mt_W_t hW221 (mt_G_F hGa234)
              have hF252 := mt_F_t hF222 (mt_G_F hGa234)
              have hG253 := mt_G_t hG223 hGa234
              have hmc254 := mc_G hmc224 hGa234
              have hz255 : 0 < sp_f P (a + 3) 1 := mt_f_ne hW221 hA205.2 (by omega)
              have hn256 : 0 < I233 82 8 := by rw [he235]; exact hz255
              have hx257 : sp_cl K P V ld nm a = .inr (sp_f P (a + 3) 1) := by
                first
                | (exfalso; omega)
                | (unfold sp_cl; rw [if_pos (by omega)]; unfold sp_pair; (repeat (first | rw [if_pos (by omega)] | rw [if_neg (by omega)])); done)
                | (unfold sp_cl; rw [if_neg (by omega)]; unfold sp_single; (repeat (first | rw [if_pos (by omega)] | rw [if_neg (by omega)])); done)
              show yi_D zi_Ms d zi_m94 k (79, [(4, .inl (nm (V (a + 2)) - 0)), (3, .inl (nm (V (a + 1)) - 0)), (2, .inl 8), (1, .inl (ld 0)), (0, .inr (.inr (some 82)))], [.inl z236, .inl (nm (V (a + 1)) - 0)], (I233, L, R, Y), 0, 0) _
              refine yi_D_run 2 (82, [(4, .inl (nm (V (a + 2)) - 0)), (3, .inl (nm (V (a + 1)) - 0)), (2, .inl 8), (1, .inl (ld 0)), (0, .inr (.inr (some 82)))], [.inl (nm (V (a + 2)) - 0), .inl 8, .inl z236, .inl (nm (V (a + 1)) - 0)], (I233, L, R, Y), 0, 0) (fun _ => rfl) ?_
              refine yi_D_calls rfl (q_clause) ?_
              rintro _ ⟨zc, rfl⟩
              show yi_D zi_Ms d zi_m94 k (85, [(4, .inl (nm (V (a + 2)) - 0)), (3, .inl (nm (V (a + 1)) - 0)), (2, .inl 8), (1, .inl (ld 0)), (0, .inr (.inr (some 82)))], [.inl zc], (I233, L, R, Y), 0, 0) _
              refine yi_D_reti rfl ?_
              exact ⟨_, _, rfl, hG253, Or.inr ⟨_, hx257, hz255, he235⟩⟩
            · have hW258 := mt_W_t hW221 (mt_G_F hGa239)
              have hF259 := mt_F_t hF222 (mt_G_F hGa239)
              have hG260 := mt_G_t hG223 hGa239
              have hmc261 := mc_G hmc224 hGa239
              have hz262 : 0 < sp_f P (a + 3) 2 := mt_f_ne hW221 hA205.2 (by omega)
              have hn263 : 0 < I238 82 8 := by rw [he240]; exact hz262
              have hx264 : sp_cl K P V ld nm a = .inr (sp_f P (a + 3) 2) := by
                first
                | (exfalso; omega)
                | (unfold sp_cl; rw [if_pos (by omega)]; unfold sp_pair; (repeat (first | rw [if_pos (by omega)] | rw [if_neg (by omega)])); done)
                | (unfold sp_cl; rw [if_neg (by omega)]; unfold sp_single; (repeat (first | rw [if_pos (by omega)] | rw [if_neg (by omega)])); done)
              show yi_D zi_Ms d zi_m94 k (79, [(4, .inl (nm (V (a + 2)) - 0)), (3, .inl (nm (V (a + 1)) - 0)), (2, .inl 8), (1, .inl (ld 0)), (0, .inr (.inr (some 82)))], [.inl z241, .inl (nm (V (a + 1)) - 0)], (I238, L, R, Y), 0, 0) _
              refine yi_D_run 2 (82, [(4, .inl (nm (V (a + 2)) - 0)), (3, .inl (nm (V (a + 1)) - 0)), (2, .inl 8), (1, .inl (ld 0)), (0, .inr (.inr (some 82)))], [.inl (nm (V (a + 2)) - 0), .inl 8, .inl z241, .inl (nm (V (a + 1)) - 0)], (I238, L, R, Y), 0, 0) (fun _ => rfl) ?_
              refine yi_D_calls rfl (q_clause) ?_
              rintro _ ⟨zc, rfl⟩
              show yi_D zi_Ms d zi_m94 k (85, [(4, .inl (nm (V (a + 2)) - 0)), (3, .inl (nm (V (a + 1)) - 0)), (2, .inl 8), (1, .inl (ld 0)), (0, .inr (.inr (some 82)))], [.inl zc], (I238, L, R, Y), 0, 0) _
              refine yi_D_reti rfl ?_
              exact ⟨_, _, rfl, hG260, Or.inr ⟨_, hx264, hz262, he240⟩⟩
            · have hW265 := mt_W_t hW221 (mt_G_F hGa244)
              have hF266 := mt_F_t hF222 (mt_G_F hGa244)
              have hG267 := mt_G_t hG223 hGa244
              have hmc268 := mc_G hmc224 hGa244
              have hz269 : 0 < sp_f P (a + 3) 3 := mt_f_ne hW221 hA205.2 (by omega)
              have hn270 : 0 < I243 82 8 := by rw [he245]; exact hz269
              have hx271 : sp_cl K P V ld nm a = .inr (sp_f P (a + 3) 3) := by
                first
                | (exfalso; omega)
                | (unfold sp_cl; rw [if_pos (by omega)]; unfold sp_pair; (repeat (first | rw [if_pos (by omega)] | rw [if_neg (by omega)])); done)
                | (unfold sp_cl; rw [if_neg (by omega)]; unfold sp_single; (repeat (first | rw [if_pos (by omega)] | rw [if_neg (by omega)])); done)
              show yi_D zi_Ms d zi_m94 k (79, [(4, .inl (nm (V (a + 2)) - 0)), (3, .inl (nm (V (a + 1)) - 0)), (2, .inl 8), (1, .inl (ld 0)), (0, .inr (.inr (some 82)))], [.inl z246, .inl (nm (V (a + 1)) - 0)], (I243, L, R, Y), 0, 0) _
              refine yi_D_run 2 (82, [(4, .inl (nm (V (a + 2)) - 0)), (3, .inl (nm (V (a + 1)) - 0)), (2, .inl 8), (1, .inl (ld 0)), (0, .inr (.inr (some 82)))], [.inl (nm (V (a + 2)) - 0), .inl 8, .inl z246, .inl (nm (V (a + 1)) - 0)], (I243, L, R, Y), 0, 0) (fun _ => rfl) ?_
              refine yi_D_calls rfl (q_clause) ?_
              rintro _ ⟨zc, rfl⟩
              show yi_D zi_Ms d zi_m94 k (85, [(4, .inl (nm (V (a + 2)) - 0)), (3, .inl (nm (V (a + 1)) - 0)), (2, .inl 8), (1, .inl (ld 0)), (0, .inr (.inr (some 82)))], [.inl zc], (I243, L, R, Y), 0, 0) _
              refine yi_D_reti rfl ?_
              exact ⟨_, _, rfl, hG267, Or.inr ⟨_, hx271, hz269, he245⟩⟩
          · have hW272 := mt_W_t hW195 (mt_G_F hGa208)
            have hF273 := mt_F_t hF196 (mt_G_F hGa208)
            have hG274 := mt_G_t hG197 hGa208
            have hmc275 := mc_G hmc198 hGa208
            have hz276 : 0 < sp_f P (a + 2) 1 := mt_f_ne hW195 hA179.2 (by omega)
            have hn277 : 0 < I207 82 8 := by rw [he209]; exact hz276
            have hx278 : sp_cl K P V ld nm a = .inr (sp_f P (a + 2) 1) := by
              first
              | (exfalso; omega)
              | (unfold sp_cl; rw [if_pos (by omega)]; unfold sp_pair; (repeat (first | rw [if_pos (by omega)] | rw [if_neg (by omega)])); done)
              | (unfold sp_cl; rw [if_neg (by omega)]; unfold sp_single; (repeat (first | rw [if_pos (by omega)] | rw [if_neg (by omega)])); done)
            show yi_D zi_Ms d zi_m94 k (70, [(3, .inl (nm (V (a + 1)) - 0)), (2, .inl 8), (1, .inl (ld 0)), (0, .inr (.inr (some 82)))], [.inl z210], (I207, L, R, Y), 0, 0) _
            refine yi_D_run 5 (76, [(4, .inl z210), (3, .inl (nm (V (a + 1)) - 0)), (2, .inl 8), (1, .inl (ld 0)), (0, .inr (.inr (some 82)))], [.inl (-1), .inl 1, .inr (.inr (some 82)), .inl (nm (V (a + 1)) - 0)], (I207, L, R, Y), 0, 0) (fun _ => rfl) ?_
            refine yi_D_callv rfl (q_takeTold1_f hW272 hn277) ?_
            rintro _ ⟨z279, rfl⟩
            show yi_D zi_Ms d zi_m94 k (79, [(4, .inl z210), (3, .inl (nm (V (a + 1)) - 0)), (2, .inl 8), (1, .inl (ld 0)), (0, .inr (.inr (some 82)))], [.inl z279, .inl (nm (V (a + 1)) - 0)], (I207, L, R, Y), 0, 0) _
            refine yi_D_run 2 (82, [(4, .inl z210), (3, .inl (nm (V (a + 1)) - 0)), (2, .inl 8), (1, .inl (ld 0)), (0, .inr (.inr (some 82)))], [.inl z210, .inl 8, .inl z279, .inl (nm (V (a + 1)) - 0)], (I207, L, R, Y), 0, 0) (fun _ => rfl) ?_
            refine yi_D_calls rfl (q_clause) ?_
            rintro _ ⟨zc, rfl⟩
            show yi_D zi_Ms d zi_m94 k (85, [(4, .inl z210), (3, .inl (nm (V (a + 1)) - 0)), (2, .inl 8), (1, .inl (ld 0)), (0, .inr (.inr (some 82)))], [.inl zc], (I207, L, R, Y), 0, 0) _
            refine yi_D_reti rfl ?_
            exact ⟨_, _, rfl, hG274, Or.inr ⟨_, hx278, hz276, he209⟩⟩
          · have hW280 := mt_W_t hW195 (mt_G_F hGa213)
            have hF281 := mt_F_t hF196 (mt_G_F hGa213)
            have hG282 := mt_G_t hG197 hGa213
            have hmc283 := mc_G hmc198 hGa213
            have hz284 : 0 < sp_f P (a + 2) 2 := mt_f_ne hW195 hA179.2 (by omega)
            have hn285 : 0 < I212 82 8 := by rw [he214]; exact hz284
            have hx286 : sp_cl K P V ld nm a = .inr (sp_f P (a + 2) 2) := by
              first
              | (exfalso; omega)
              | (unfold sp_cl; rw [if_pos (by omega)]; unfold sp_pair; (repeat (first | rw [if_pos (by omega)] | rw [if_neg (by omega)])); done)
              | (unfold sp_cl; rw [if_neg (by omega)]; unfold sp_single; (repeat (first | rw [if_pos (by omega)] | rw [if_neg (by omega)])); done)
            show yi_D zi_Ms d zi_m94 k (70, [(3, .inl (nm (V (a + 1)) - 0)), (2, .inl 8), (1, .inl (ld 0)), (0, .inr (.inr (some 82)))], [.inl z215], (I212, L, R, Y), 0, 0) _
            refine yi_D_run 5 (76, [(4, .inl z215), (3, .inl (nm (V (a + 1)) - 0)), (2, .inl 8), (1, .inl (ld 0)), (0, .inr (.inr (some 82)))], [.inl (-1), .inl 1, .inr (.inr (some 82)), .inl (nm (V (a + 1)) - 0)], (I212, L, R, Y), 0, 0) (fun _ => rfl) ?_
            refine yi_D_callv rfl (q_takeTold1_f hW280 hn285) ?_
            rintro _ ⟨z287, rfl⟩
            show yi_D zi_Ms d zi_m94 k (79, [(4, .inl z215), (3, .inl (nm (V (a + 1)) - 0)), (2, .inl 8), (1, .inl (ld 0)), (0, .inr (.inr (some 82)))], [.inl z287, .inl (nm (V (a + 1)) - 0)], (I212, L, R, Y), 0, 0) _
            refine yi_D_run 2 (82, [(4, .inl z215), (3, .inl (nm (V (a + 1)) - 0)), (2, .inl 8), (1, .inl (ld 0)), (0, .inr (.inr (some 82)))], [.inl z215, .inl 8, .inl z287, .inl (nm (V (a + 1)) - 0)], (I212, L, R, Y), 0, 0) (fun _ => rfl) ?_
            refine yi_D_calls rfl (q_clause) ?_
            rintro _ ⟨zc, rfl⟩
            show yi_D zi_Ms d zi_m94 k (85, [(4, .inl z215), (3, .inl (nm (V (a + 1)) - 0)), (2, .inl 8), (1, .inl (ld 0)), (0, .inr (.inr (some 82)))], [.inl zc], (I212, L, R, Y), 0, 0) _
            refine yi_D_reti rfl ?_
            exact ⟨_, _, rfl, hG282, Or.inr ⟨_, hx286, hz284, he214⟩⟩
          · have hW288 := mt_W_t hW195 (mt_G_F hGa218)
            have hF289 := mt_F_t hF196 (mt_G_F hGa218)
            have hG290 := mt_G_t hG197 hGa218
            have hmc291 := mc_G hmc198 hGa218
            have hz292 : 0 < sp_f P (a + 2) 3 := mt_f_ne hW195 hA179.2 (by omega)
            have hn293 : 0 < I217 82 8 := by rw [he219]; exact hz292
            have hx294 : sp_cl K P V ld nm a = .inr (sp_f P (a + 2) 3) := by
              first
              | (exfalso; omega)
              | (unfold sp_cl; rw [if_pos (by omega)]; unfold sp_pair; (repeat (first | rw [if_pos (by omega)] | rw [if_neg (by omega)])); done)
              | (unfold sp_cl; rw [if_neg (by omega)]; unfold sp_single; (repeat (first | rw [if_pos (by omega)] | rw [if_neg (by omega)])); done)
            show yi_D zi_Ms d zi_m94 k (70, [(3, .inl (nm (V (a + 1)) - 0)), (2, .inl 8), (1, .inl (ld 0)), (0, .inr (.inr (some 82)))], [.inl z220], (I217, L, R, Y), 0, 0) _
            refine yi_D_run 5 (76, [(4, .inl z220), (3, .inl (nm (V (a + 1)) - 0)), (2, .inl 8), (1, .inl (ld 0)), (0, .inr (.inr (some 82)))], [.inl (-1), .inl 1, .inr (.inr (some 82)), .inl (nm (V (a + 1)) - 0)], (I217, L, R, Y), 0, 0) (fun _ => rfl) ?_
            refine yi_D_callv rfl (q_takeTold1_f hW288 hn293) ?_
            rintro _ ⟨z295, rfl⟩
            show yi_D zi_Ms d zi_m94 k (79, [(4, .inl z220), (3, .inl (nm (V (a + 1)) - 0)), (2, .inl 8), (1, .inl (ld 0)), (0, .inr (.inr (some 82)))], [.inl z295, .inl (nm (V (a + 1)) - 0)], (I217, L, R, Y), 0, 0) _
            refine yi_D_run 2 (82, [(4, .inl z220), (3, .inl (nm (V (a + 1)) - 0)), (2, .inl 8), (1, .inl (ld 0)), (0, .inr (.inr (some 82)))], [.inl z220, .inl 8, .inl z295, .inl (nm (V (a + 1)) - 0)], (I217, L, R, Y), 0, 0) (fun _ => rfl) ?_
            refine yi_D_calls rfl (q_clause) ?_
            rintro _ ⟨zc, rfl⟩
            show yi_D zi_Ms d zi_m94 k (85, [(4, .inl z220), (3, .inl (nm (V (a + 1)) - 0)), (2, .inl 8), (1, .inl (ld 0)), (0, .inr (.inr (some 82)))], [.inl zc], (I217, L, R, Y), 0, 0) _
            refine yi_D_reti rfl ?_
            exact ⟨_, _, rfl, hG290, Or.inr ⟨_, hx294, hz292, he219⟩⟩
        · have hW296 := mt_W_t hW167 (mt_G_F hGa182)
          have hF297 := mt_F_t hF168 (mt_G_F hGa182)
          have hG298 := mt_G_t hG169 hGa182
          have hmc299 := mc_G hmc170 hGa182
          have hz300 : 0 < sp_f P (a + 1) 1 := mt_f_ne hW167 hA172.2 (by omega)
          have hn301 : 0 < I181 82 8 := by rw [he183]; exact hz300
          have hx302 : sp_cl K P V ld nm a = .inr (sp_f P (a + 1) 1) := by
            first
            | (exfalso; omega)
            | (unfold sp_cl; rw [if_pos (by omega)]; unfold sp_pair; (repeat (first | rw [if_pos (by omega)] | rw [if_neg (by omega)])); done)
            | (unfold sp_cl; rw [if_neg (by omega)]; unfold sp_single; (repeat (first | rw [if_pos (by omega)] | rw [if_neg (by omega)])); done)
          show yi_D zi_Ms d zi_m94 k (63, [(2, .inl 8), (1, .inl (ld 0)), (0, .inr (.inr (some 82)))], [.inl z184], (I181, L, R, Y), 0, 0) _
          refine yi_D_run 4 (67, [(3, .inl z184), (2, .inl 8), (1, .inl (ld 0)), (0, .inr (.inr (some 82)))], [.inl z184, .inl 0, .inr (.inr (some 82))], (I181, L, R, Y), 0, 0) (fun _ => rfl) ?_
          refine yi_D_callv rfl (q_takeTold0_f hW296 hn301) ?_
          rintro _ ⟨z303, rfl⟩
          show yi_D zi_Ms d zi_m94 k (70, [(3, .inl z184), (2, .inl 8), (1, .inl (ld 0)), (0, .inr (.inr (some 82)))], [.inl z303], (I181, L, R, Y), 0, 0) _
          refine yi_D_run 5 (76, [(4, .inl z303), (3, .inl z184), (2, .inl 8), (1, .inl (ld 0)), (0, .inr (.inr (some 82)))], [.inl (-1), .inl 1, .inr (.inr (some 82)), .inl z184], (I181, L, R, Y), 0, 0) (fun _ => rfl) ?_
          refine yi_D_callv rfl (q_takeTold1_f hW296 hn301) ?_
          rintro _ ⟨z304, rfl⟩
          show yi_D zi_Ms d zi_m94 k (79, [(4, .inl z303), (3, .inl z184), (2, .inl 8), (1, .inl (ld 0)), (0, .inr (.inr (some 82)))], [.inl z304, .inl z184], (I181, L, R, Y), 0, 0) _
          refine yi_D_run 2 (82, [(4, .inl z303), (3, .inl z184), (2, .inl 8), (1, .inl (ld 0)), (0, .inr (.inr (some 82)))], [.inl z303, .inl 8, .inl z304, .inl z184], (I181, L, R, Y), 0, 0) (fun _ => rfl) ?_
          refine yi_D_calls rfl (q_clause) ?_
          rintro _ ⟨zc, rfl⟩
          show yi_D zi_Ms d zi_m94 k (85, [(4, .inl z303), (3, .inl z184), (2, .inl 8), (1, .inl (ld 0)), (0, .inr (.inr (some 82)))], [.inl zc], (I181, L, R, Y), 0, 0) _
          refine yi_D_reti rfl ?_
          exact ⟨_, _, rfl, hG298, Or.inr ⟨_, hx302, hz300, he183⟩⟩
        · have hW305 := mt_W_t hW167 (mt_G_F hGa187)
          have hF306 := mt_F_t hF168 (mt_G_F hGa187)
          have hG307 := mt_G_t hG169 hGa187
          have hmc308 := mc_G hmc170 hGa187
          have hz309 : 0 < sp_f P (a + 1) 2 := mt_f_ne hW167 hA172.2 (by omega)
          have hn310 : 0 < I186 82 8 := by rw [he188]; exact hz309
          have hx311 : sp_cl K P V ld nm a = .inr (sp_f P (a + 1) 2) := by
            first
            | (exfalso; omega)
            | (unfold sp_cl; rw [if_pos (by omega)]; unfold sp_pair; (repeat (first | rw [if_pos (by omega)] | rw [if_neg (by omega)])); done)
            | (unfold sp_cl; rw [if_neg (by omega)]; unfold sp_single; (repeat (first | rw [if_pos (by omega)] | rw [if_neg (by omega)])); done)
          show yi_D zi_Ms d zi_m94 k (63, [(2, .inl 8), (1, .inl (ld 0)), (0, .inr (.inr (some 82)))], [.inl z189], (I186, L, R, Y), 0, 0) _
          refine yi_D_run 4 (67, [(3, .inl z189), (2, .inl 8), (1, .inl (ld 0)), (0, .inr (.inr (some 82)))], [.inl z189, .inl 0, .inr (.inr (some 82))], (I186, L, R, Y), 0, 0) (fun _ => rfl) ?_
          refine yi_D_callv rfl (q_takeTold0_f hW305 hn310) ?_
          rintro _ ⟨z312, rfl⟩
          show yi_D zi_Ms d zi_m94 k (70, [(3, .inl z189), (2, .inl 8), (1, .inl (ld 0)), (0, .inr (.inr (some 82)))], [.inl z312], (I186, L, R, Y), 0, 0) _
          refine yi_D_run 5 (76, [(4, .inl z312), (3, .inl z189), (2, .inl 8), (1, .inl (ld 0)), (0, .inr (.inr (some 82)))], [.inl (-1), .inl 1, .inr (.inr (some 82)), .inl z189], (I186, L, R, Y), 0, 0) (fun _ => rfl) ?_
          refine yi_D_callv rfl (q_takeTold1_f hW305 hn310) ?_
          rintro _ ⟨z313, rfl⟩
          show yi_D zi_Ms d zi_m94 k (79, [(4, .inl z312), (3, .inl z189), (2, .inl 8), (1, .inl (ld 0)), (0, .inr (.inr (some 82)))], [.inl z313, .inl z189], (I186, L, R, Y), 0, 0) _
          refine yi_D_run 2 (82, [(4, .inl z312), (3, .inl z189), (2, .inl 8), (1, .inl (ld 0)), (0, .inr (.inr (some 82)))], [.inl z312, .inl 8, .inl z313, .inl z189], (I186, L, R, Y), 0, 0) (fun _ => rfl) ?_
          refine yi_D_calls rfl (q_clause) ?_
          rintro _ ⟨zc, rfl⟩
          show yi_D zi_Ms d zi_m94 k (85, [(4, .inl z312), (3, .inl z189), (2, .inl 8), (1, .inl (ld 0)), (0, .inr (.inr (some 82)))], [.inl zc], (I186, L, R, Y), 0, 0) _
          refine yi_D_reti rfl ?_
          exact ⟨_, _, rfl, hG307, Or.inr ⟨_, hx311, hz309, he188⟩⟩
        · have hW314 := mt_W_t hW167 (mt_G_F hGa192)
          have hF315 := mt_F_t hF168 (mt_G_F hGa192)
          have hG316 := mt_G_t hG169 hGa192
          have hmc317 := mc_G hmc170 hGa192
          have hz318 : 0 < sp_f P (a + 1) 3 := mt_f_ne hW167 hA172.2 (by omega)
          have hn319 : 0 < I191 82 8 := by rw [he193]; exact hz318
          have hx320 : sp_cl K P V ld nm a = .inr (sp_f P (a + 1) 3) := by
            first
            | (exfalso; omega)
            | (unfold sp_cl; rw [if_pos (by omega)]; unfold sp_pair; (repeat (first | rw [if_pos (by omega)] | rw [if_neg (by omega)])); done)
            | (unfold sp_cl; rw [if_neg (by omega)]; unfold sp_single; (repeat (first | rw [if_pos (by omega)] | rw [if_neg (by omega)])); done)
          show yi_D zi_Ms d zi_m94 k (63, [(2, .inl 8), (1, .inl (ld 0)), (0, .inr (.inr (some 82)))], [.inl z194], (I191, L, R, Y), 0, 0) _
          refine yi_D_run 4 (67, [(3, .inl z194), (2, .inl 8), (1, .inl (ld 0)), (0, .inr (.inr (some 82)))], [.inl z194, .inl 0, .inr (.inr (some 82))], (I191, L, R, Y), 0, 0) (fun _ => rfl) ?_
          refine yi_D_callv rfl (q_takeTold0_f hW314 hn319) ?_
          rintro _ ⟨z321, rfl⟩
          show yi_D zi_Ms d zi_m94 k (70, [(3, .inl z194), (2, .inl 8), (1, .inl (ld 0)), (0, .inr (.inr (some 82)))], [.inl z321], (I191, L, R, Y), 0, 0) _
          refine yi_D_run 5 (76, [(4, .inl z321), (3, .inl z194), (2, .inl 8), (1, .inl (ld 0)), (0, .inr (.inr (some 82)))], [.inl (-1), .inl 1, .inr (.inr (some 82)), .inl z194], (I191, L, R, Y), 0, 0) (fun _ => rfl) ?_
          refine yi_D_callv rfl (q_takeTold1_f hW314 hn319) ?_
          rintro _ ⟨z322, rfl⟩
          show yi_D zi_Ms d zi_m94 k (79, [(4, .inl z321), (3, .inl z194), (2, .inl 8), (1, .inl (ld 0)), (0, .inr (.inr (some 82)))], [.inl z322, .inl z194], (I191, L, R, Y), 0, 0) _
          refine yi_D_run 2 (82, [(4, .inl z321), (3, .inl z194), (2, .inl 8), (1, .inl (ld 0)), (0, .inr (.inr (some 82)))], [.inl z321, .inl 8, .inl z322, .inl z194], (I191, L, R, Y), 0, 0) (fun _ => rfl) ?_
          refine yi_D_calls rfl (q_clause) ?_
          rintro _ ⟨zc, rfl⟩
          show yi_D zi_Ms d zi_m94 k (85, [(4, .inl z321), (3, .inl z194), (2, .inl 8), (1, .inl (ld 0)), (0, .inr (.inr (some 82)))], [.inl zc], (I191, L, R, Y), 0, 0) _
          refine yi_D_reti rfl ?_
          exact ⟨_, _, rfl, hG316, Or.inr ⟨_, hx320, hz318, he193⟩⟩
    · show yi_D zi_Ms d zi_m94 k (27, [(1, .inl (ld 0)), (0, .inr (.inr (some 82)))], [.inl 0], (I, L, R, Y), 0, 0) _
      refine yi_D_if1 true rfl (by decide) ?_
      refine yi_D_run 2 (89, [(1, .inl (ld 0)), (0, .inr (.inr (some 82)))], [.inl 10, .inr (.inr (some 82))], (I, L, R, Y), 0, 0) (fun _ => rfl) ?_
      refine yi_D_callv rfl (q_isWord_z (by omega) (by omega) hW hf hA) ?_
      rintro _ (⟨c323, rfl⟩ | ⟨c323, rfl⟩)
      · show yi_D zi_Ms d zi_m94 k (92, [(1, .inl (ld 0)), (0, .inr (.inr (some 82)))], [.inl 1], (I, L, R, Y), 0, 0) _
        refine yi_D_if1 false rfl (by decide) ?_
        refine yi_D_run 5 (116, [(2, .inl 4), (1, .inl (ld 0)), (0, .inr (.inr (some 82)))], [.inr (.inr (some 82)), .inr (.inr (some 82))], (I, L, R, Y), 0, 0) (fun _ => rfl) ?_
        refine yi_D_gi (v := (a : Int)) rfl rfl rfl hA.1 (fun _ => ?_)
        refine yi_D_run 1 (120, [(2, .inl 4), (1, .inl (ld 0)), (0, .inr (.inr (some 82)))], [.inl 4, .inl (a : Int), .inr (.inr (some 82))], (I, L, R, Y), 0, 0) (fun _ => rfl) ?_
        refine yi_D_if1 true rfl (by decide) ?_
        refine yi_D_run 1 (128, [(2, .inl 4), (1, .inl (ld 0)), (0, .inr (.inr (some 82)))], [.inl 1, .inl (a : Int), .inr (.inr (some 82))], (I, L, R, Y), 0, 0) (fun _ => rfl) ?_
        refine yi_D_iadd rfl ((a : Int) + 1) (yi_wn (by omega) (by omega)) ?_
        refine yi_D_pi rfl (fun _ => ?_)
        generalize w325 : yi_u I 82 7 ((a : Int) + 1) = I324
        have hGn326 : mt_G I I324 := fun p k hp => by rw [← w325, yi_u_ne _ _ (by omega)]
        have hW327 := mt_W_t hW (mt_G_F hGn326)
        have hF328 := (mt_G_F hGn326)
        have hG329 := hGn326
        have hmc330 := mc_G hm hGn326
        have hf331 : I324 82 8 = 0 := by rw [← w325, yi_u_ne _ _ (by omega)]; exact hf
        have hA332 : mt_A I324 te (a + 1) := ⟨by rw [← w325, yi_u_eq]; omega, mt_lt hW327.2.1 hA.2 (by omega)⟩
        refine yi_D_run 1 (133, [(2, .inl 4), (1, .inl (ld 0)), (0, .inr (.inr (some 82)))], [.inl 4], (I324, L, R, Y), 0, 0) (fun _ => rfl) ?_
        refine yi_D_if1 true rfl (by decide) ?_
        refine yi_D_run 5 (150, [(2, .inl 4), (1, .inl (ld 0)), (0, .inr (.inr (some 82)))], [.inl (-1), .inl 1, .inr (.inr (some 82))], (I324, L, R, Y), 0, 0) (fun _ => rfl) ?_
        refine yi_D_callv rfl (q_takeTold1_z (bt := (-1)) hW327 hf331 hA332) ?_
        rintro _ (⟨c333, c334, c335, I336, rfl, hGa337, hf338, hA339⟩ | ⟨c340, z344, I341, rfl, hGa342, he343⟩ | ⟨c345, z349, I346, rfl, hGa347, he348⟩ | ⟨c350, z354, I351, rfl, hGa352, he353⟩)
        · have hA339 : mt_A I336 te (a + 2) := hA339
          have hW355 := mt_W_t hW327 (mt_G_F hGa337)
          have hF356 := mt_F_t hF328 (mt_G_F hGa337)
          have hG357 := mt_G_t hG329 hGa337
          have hmc358 := mc_G hmc330 hGa337
          show yi_D zi_Ms d zi_m94 k (153, [(2, .inl 4), (1, .inl (ld 0)), (0, .inr (.inr (some 82)))], [.inl (nm (V (a + 1)) - 4)], (I336, L, R, Y), 0, 0) _
          refine yi_D_run 2 (155, [(3, .inl (nm (V (a + 1)) - 4)), (2, .inl 4), (1, .inl (ld 0)), (0, .inr (.inr (some 82)))], [.inr (.inr (some 82))], (I336, L, R, Y), 0, 0) (fun _ => rfl) ?_
          refine yi_D_gi (v := 0) rfl rfl rfl hf338 (fun _ => ?_)
          refine yi_D_if1 true rfl (by decide) ?_
          refine yi_D_run 3 (170, [(3, .inl (nm (V (a + 1)) - 4)), (2, .inl 4), (1, .inl (ld 0)), (0, .inr (.inr (some 82)))], [.inl 7, .inl 14, .inr (.inr (some 82))], (I336, L, R, Y), 0, 0) (fun _ => rfl) ?_
          refine yi_D_callv rfl (q_wordHere_z (by omega) (by omega) (by omega) hW355 hf338 hA339) ?_
          rintro _ ⟨z359, rfl, hz360⟩
          show yi_D zi_Ms d zi_m94 k (173, [(3, .inl (nm (V (a + 1)) - 4)), (2, .inl 4), (1, .inl (ld 0)), (0, .inr (.inr (some 82)))], [.inl z359], (I336, L, R, Y), 0, 0) _
          refine yi_D_run 2 (177, [(4, .inl z359), (3, .inl (nm (V (a + 1)) - 4)), (2, .inl 4), (1, .inl (ld 0)), (0, .inr (.inr (some 82)))], [.inl z359], (I336, L, R, Y), 0, 0) (fun _ => rfl) ?_
          by_cases h361 : 0 ≤ z359
          · refine yi_D_if1 true rfl (yi_ge_t h361) ?_
            refine yi_D_run 2 (189, [(4, .inl z359), (3, .inl (nm (V (a + 1)) - 4)), (2, .inl 4), (1, .inl (ld 0)), (0, .inr (.inr (some 82)))], [.inr (.inr (some 82)), .inr (.inr (some 82))], (I336, L, R, Y), 0, 0) (fun _ => rfl) ?_
            refine yi_D_gi (v := ((a + 2 : Nat) : Int)) rfl rfl rfl hA339.1 (fun _ => ?_)
            refine yi_D_run 1 (193, [(4, .inl z359), (3, .inl (nm (V (a + 1)) - 4)), (2, .inl 4), (1, .inl (ld 0)), (0, .inr (.inr (some 82)))], [.inl 1, .inl ((a + 2 : Nat) : Int), .inr (.inr (some 82))], (I336, L, R, Y), 0, 0) (fun _ => rfl) ?_
            refine yi_D_iadd rfl (((a + 2 : Nat) : Int) + 1) (yi_wn (by omega) (by omega)) ?_
            refine yi_D_pi rfl (fun _ => ?_)
            generalize w363 : yi_u I336 82 7 (((a + 2 : Nat) : Int) + 1) = I362
            have hGn364 : mt_G I336 I362 := fun p k hp => by rw [← w363, yi_u_ne _ _ (by omega)]
            have hW365 := mt_W_t hW355 (mt_G_F hGn364)
            have hF366 := mt_F_t hF356 (mt_G_F hGn364)
            have hG367 := mt_G_t hG357 hGn364
            have hmc368 := mc_G hmc358 hGn364
            have hf369 : I362 82 8 = 0 := by rw [← w363, yi_u_ne _ _ (by omega)]; exact hf338
            have hA370 : mt_A I362 te (a + 3) := ⟨by rw [← w363, yi_u_eq]; omega, mt_lt hW365.2.1 hA339.2 (by omega)⟩
            refine yi_D_run 2 (200, [(4, .inl z359), (3, .inl (nm (V (a + 1)) - 4)), (2, .inl 4), (1, .inl (ld 0)), (0, .inr (.inr (some 82)))], [.inl 2, .inl z359], (I362, L, R, Y), 0, 0) (fun _ => rfl) ?_
            by_cases h371 : 2 < z359
            · refine yi_D_if2 true rfl (yi_gt_t h371) ?_
              refine yi_D_run 2 (215, [(4, .inl z359), (3, .inl (nm (V (a + 1)) - 4)), (2, .inl 4), (1, .inl (ld 0)), (0, .inr (.inr (some 82)))], [.inl 5, .inl z359], (I362, L, R, Y), 0, 0) (fun _ => rfl) ?_
              by_cases h372 : z359 < 5
              · refine yi_D_if2 true rfl (yi_lt_t h372) ?_
                refine yi_D_run 6 (236, [(5, .inl 0), (4, .inl z359), (3, .inl (nm (V (a + 1)) - 4)), (2, .inl 4), (1, .inl (ld 0)), (0, .inr (.inr (some 82)))], [.inl 0, .inl z359, .inl (nm (V (a + 1)) - 4), .inl 4], (I362, L, R, Y), 0, 0) (fun _ => rfl) ?_
                refine yi_D_calls rfl (q_clauseE (x0 := 4) (x1 := nm (V (a + 1)) - 4) (x2 := z359) (x3 := 0) ⟨⟨by omega, by omega⟩, ⟨by omega, by omega⟩, ⟨by omega, by omega⟩, ⟨by omega, by omega⟩⟩) ?_
                rintro _ rfl
                show yi_D zi_Ms d zi_m94 k (239, [(5, .inl 0), (4, .inl z359), (3, .inl (nm (V (a + 1)) - 4)), (2, .inl 4), (1, .inl (ld 0)), (0, .inr (.inr (some 82)))], [.inl (sp_cc 4 (nm (V (a + 1)) - 4) z359 0)], (I362, L, R, Y), 0, 0) _
                refine yi_D_reti rfl ?_
                first
                | (exfalso; omega)
                | (refine ⟨sp_cc (nm (V (a + 1))) (nm (V (a + 3)) - 4) (if K a = 16 then 7 else 8) (nm (V (a + 2))), I362, by rw [show sp_cc (nm (V (a + 1))) (nm (V (a + 3)) - 4) (if K a = 16 then 7 else 8) (nm (V (a + 2))) = sp_cc 4 (nm (V (a + 1)) - 4) z359 0 from by (unfold sp_cc; (repeat (first | rw [if_pos (by omega)] | rw [if_neg (by omega)])); omega)], hG367, Or.inl ⟨_, ?_, hf369, hA370⟩⟩; unfold sp_cl; rw [if_pos (by omega)]; unfold sp_pair; (repeat (first | rw [if_pos (by omega)] | rw [if_neg (by omega)])); done)
                | (refine ⟨sp_cc (if K a = 14 then 4 else if K a = 15 then 5 else nm (V a)) (nm (V (a + 1)) - 4) (K (a + 2) - 18) 0, I362, by rw [show sp_cc (if K a = 14 then 4 else if K a = 15 then 5 else nm (V a)) (nm (V (a + 1)) - 4) (K (a + 2) - 18) 0 = sp_cc 4 (nm (V (a + 1)) - 4) z359 0 from by (unfold sp_cc; (repeat (first | rw [if_pos (by omega)] | rw [if_neg (by omega)])); omega)], hG367, Or.inl ⟨_, ?_, hf369, hA370⟩⟩; unfold sp_cl; rw [if_neg (by omega)]; unfold sp_single; (repeat (first | rw [if_pos (by omega)] | rw [if_neg (by omega)])); done)
              · refine yi_D_if2 false rfl (yi_lt_f h372) ?_
                refine yi_D_run 3 (221, [(4, .inl z359), (3, .inl (nm (V (a + 1)) - 4)), (2, .inl 4), (1, .inl (ld 0)), (0, .inr (.inr (some 82)))], [.inl (ld 0), .inl 0, .inr (.inr (some 82))], (I362, L, R, Y), 0, 0) (fun _ => rfl) ?_
                have hlo : sp_lo (K (a + 2)) = 0 := if_neg (by omega)
                refine yi_D_callv rfl (q_takeNumber_z (lo := 0) (hi := ld 0) hW365 hf369 hA370) ?_
                rintro _ (⟨c373, c374, I375, rfl, hGa376, hf377, hA378⟩ | ⟨c379, z383, I380, rfl, hGa381, he382⟩ | ⟨c384, z388, I385, rfl, hGa386, he387⟩)
                · have hA378 : mt_A I375 te (a + 4) := hA378
                  have hW389 := mt_W_t hW365 (mt_G_F hGa376)
                  have hF390 := mt_F_t hF366 (mt_G_F hGa376)
                  have hG391 := mt_G_t hG367 hGa376
                  have hmc392 := mc_G hmc368 hGa376
                  show yi_D zi_Ms d zi_m94 k (224, [(4, .inl z359), (3, .inl (nm (V (a + 1)) - 4)), (2, .inl 4), (1, .inl (ld 0)), (0, .inr (.inr (some 82)))], [.inl (V (a + 3))], (I375, L, R, Y), 0, 0) _
                  refine yi_D_run 6 (236, [(5, .inl (V (a + 3))), (4, .inl z359), (3, .inl (nm (V (a + 1)) - 4)), (2, .inl 4), (1, .inl (ld 0)), (0, .inr (.inr (some 82)))], [.inl (V (a + 3)), .inl z359, .inl (nm (V (a + 1)) - 4), .inl 4], (I375, L, R, Y), 0, 0) (fun _ => rfl) ?_
                  refine yi_D_calls rfl (q_clauseE (x0 := 4) (x1 := nm (V (a + 1)) - 4) (x2 := z359) (x3 := V (a + 3)) ⟨⟨by omega, by omega⟩, ⟨by omega, by omega⟩, ⟨by omega, by omega⟩, ⟨by omega, by omega⟩⟩) ?_
                  rintro _ rfl
                  show yi_D zi_Ms d zi_m94 k (239, [(5, .inl (V (a + 3))), (4, .inl z359), (3, .inl (nm (V (a + 1)) - 4)), (2, .inl 4), (1, .inl (ld 0)), (0, .inr (.inr (some 82)))], [.inl (sp_cc 4 (nm (V (a + 1)) - 4) z359 (V (a + 3)))], (I375, L, R, Y), 0, 0) _
                  refine yi_D_reti rfl ?_
                  first
                  | (exfalso; omega)
                  | (refine ⟨sp_cc (nm (V (a + 1))) (nm (V (a + 3)) - 4) (if K a = 16 then 7 else 8) (nm (V (a + 2))), I375, by rw [show sp_cc (nm (V (a + 1))) (nm (V (a + 3)) - 4) (if K a = 16 then 7 else 8) (nm (V (a + 2))) = sp_cc 4 (nm (V (a + 1)) - 4) z359 (V (a + 3)) from by (unfold sp_cc; (repeat (first | rw [if_pos (by omega)] | rw [if_neg (by omega)])); omega)], hG391, Or.inl ⟨_, ?_, hf377, hA378⟩⟩; unfold sp_cl; rw [if_pos (by omega)]; unfold sp_pair; (repeat (first | rw [if_pos (by omega)] | rw [if_neg (by omega)])); done)
                  | (refine ⟨sp_cc (if K a = 14 then 4 else if K a = 15 then 5 else nm (V a)) (nm (V (a + 1)) - 4) (K (a + 2) - 18) (V (a + 3)), I375, by rw [show sp_cc (if K a = 14 then 4 else if K a = 15 then 5 else nm (V a)) (nm (V (a + 1)) - 4) (K (a + 2) - 18) (V (a + 3)) = sp_cc 4 (nm (V (a + 1)) - 4) z359 (V (a + 3)) from by (unfold sp_cc; (repeat (first | rw [if_pos (by omega)] | rw [if_neg (by omega)])); omega)], hG391, Or.inl ⟨_, ?_, hf377, hA378⟩⟩; unfold sp_cl; rw [if_neg (by omega)]; unfold sp_single; (repeat (first | rw [if_pos (by omega)] | rw [if_neg (by omega)])); done)
                · have hW393 := mt_W_t hW365 (mt_G_F hGa381)
                  have hF394 := mt_F_t hF366 (mt_G_F hGa381)
                  have hG395 := mt_G_t hG367 hGa381
                  have hmc396 := mc_G hmc368 hGa381
                  have hz397 : 0 < sp_f P (a + 3) 1 := mt_f_ne hW365 hA370.2 (by omega)
                  have hn398 : 0 < I380 82 8 := by rw [he382]; exact hz397
                  have hx399 : sp_cl K P V ld nm a = .inr (sp_f P (a + 3) 1) := by
                    first
                    | (exfalso; omega)
                    | (unfold sp_cl; rw [if_pos (by omega)]; unfold sp_pair; (repeat (first | rw [if_pos (by omega)] | rw [if_neg (by omega)])); done)
                    | (unfold sp_cl; rw [if_neg (by omega)]; unfold sp_single; (repeat (first | rw [if_pos (by omega)] | rw [if_neg (by omega)])); done)
                  show yi_D zi_Ms d zi_m94 k (224, [(4, .inl z359), (3, .inl (nm (V (a + 1)) - 4)), (2, .inl 4), (1, .inl (ld 0)), (0, .inr (.inr (some 82)))], [.inl z383], (I380, L, R, Y), 0, 0) _
                  refine yi_D_run 6 (236, [(5, .inl z383), (4, .inl z359), (3, .inl (nm (V (a + 1)) - 4)), (2, .inl 4), (1, .inl (ld 0)), (0, .inr (.inr (some 82)))], [.inl z383, .inl z359, .inl (nm (V (a + 1)) - 4), .inl 4], (I380, L, R, Y), 0, 0) (fun _ => rfl) ?_
                  refine yi_D_calls rfl (q_clause) ?_
                  rintro _ ⟨zc, rfl⟩
                  show yi_D zi_Ms d zi_m94 k (239, [(5, .inl z383), (4, .inl z359), (3, .inl (nm (V (a + 1)) - 4)), (2, .inl 4), (1, .inl (ld 0)), (0, .inr (.inr (some 82)))], [.inl zc], (I380, L, R, Y), 0, 0) _
                  refine yi_D_reti rfl ?_
                  exact ⟨_, _, rfl, hG395, Or.inr ⟨_, hx399, hz397, he382⟩⟩
                · have hW400 := mt_W_t hW365 (mt_G_F hGa386)
                  have hF401 := mt_F_t hF366 (mt_G_F hGa386)
                  have hG402 := mt_G_t hG367 hGa386
                  have hmc403 := mc_G hmc368 hGa386
                  have hz404 : 0 < sp_f P (a + 3) 4 := mt_f_ne hW365 hA370.2 (by omega)
                  have hn405 : 0 < I385 82 8 := by rw [he387]; exact hz404
                  have hx406 : sp_cl K P V ld nm a = .inr (sp_f P (a + 3) 4) := by
                    first
                    | (exfalso; omega)
                    | (unfold sp_cl; rw [if_pos (by omega)]; unfold sp_pair; (repeat (first | rw [if_pos (by omega)] | rw [if_neg (by omega)])); done)
                    | (unfold sp_cl; rw [if_neg (by omega)]; unfold sp_single; (repeat (first | rw [if_pos (by omega)] | rw [if_neg (by omega)])); done)
                  show yi_D zi_Ms d zi_m94 k (224, [(4, .inl z359), (3, .inl (nm (V (a + 1)) - 4)), (2, .inl 4), (1, .inl (ld 0)), (0, .inr (.inr (some 82)))], [.inl z388], (I385, L, R, Y), 0, 0) _
                  refine yi_D_run 6 (236, [(5, .inl z388), (4, .inl z359), (3, .inl (nm (V (a + 1)) - 4)), (2, .inl 4), (1, .inl (ld 0)), (0, .inr (.inr (some 82)))], [.inl z388, .inl z359, .inl (nm (V (a + 1)) - 4), .inl 4], (I385, L, R, Y), 0, 0) (fun _ => rfl) ?_
                  refine yi_D_calls rfl (q_clause) ?_
                  rintro _ ⟨zc, rfl⟩
                  show yi_D zi_Ms d zi_m94 k (239, [(5, .inl z388), (4, .inl z359), (3, .inl (nm (V (a + 1)) - 4)), (2, .inl 4), (1, .inl (ld 0)), (0, .inr (.inr (some 82)))], [.inl zc], (I385, L, R, Y), 0, 0) _
                  refine yi_D_reti rfl ?_
                  exact ⟨_, _, rfl, hG402, Or.inr ⟨_, hx406, hz404, he387⟩⟩
            · refine yi_D_if2 false rfl (yi_gt_f h371) ?_
              refine yi_D_run 3 (206, [(4, .inl z359), (3, .inl (nm (V (a + 1)) - 4)), (2, .inl 4), (1, .inl (ld 0)), (0, .inr (.inr (some 82)))], [.inl (ld 0), .inl 1, .inr (.inr (some 82))], (I362, L, R, Y), 0, 0) (fun _ => rfl) ?_
              have hlo : sp_lo (K (a + 2)) = 1 := if_pos (by omega)
              refine yi_D_callv rfl (q_takeNumber_z (lo := 1) (hi := ld 0) hW365 hf369 hA370) ?_
              rintro _ (⟨c407, c408, I409, rfl, hGa410, hf411, hA412⟩ | ⟨c413, z417, I414, rfl, hGa415, he416⟩ | ⟨c418, z422, I419, rfl, hGa420, he421⟩)
              · have hA412 : mt_A I409 te (a + 4) := hA412
                have hW423 := mt_W_t hW365 (mt_G_F hGa410)
                have hF424 := mt_F_t hF366 (mt_G_F hGa410)
                have hG425 := mt_G_t hG367 hGa410
                have hmc426 := mc_G hmc368 hGa410
                show yi_D zi_Ms d zi_m94 k (209, [(4, .inl z359), (3, .inl (nm (V (a + 1)) - 4)), (2, .inl 4), (1, .inl (ld 0)), (0, .inr (.inr (some 82)))], [.inl (V (a + 3))], (I409, L, R, Y), 0, 0) _
                refine yi_D_run 6 (236, [(5, .inl (V (a + 3))), (4, .inl z359), (3, .inl (nm (V (a + 1)) - 4)), (2, .inl 4), (1, .inl (ld 0)), (0, .inr (.inr (some 82)))], [.inl (V (a + 3)), .inl z359, .inl (nm (V (a + 1)) - 4), .inl 4], (I409, L, R, Y), 0, 0) (fun _ => rfl) ?_
                refine yi_D_calls rfl (q_clauseE (x0 := 4) (x1 := nm (V (a + 1)) - 4) (x2 := z359) (x3 := V (a + 3)) ⟨⟨by omega, by omega⟩, ⟨by omega, by omega⟩, ⟨by omega, by omega⟩, ⟨by omega, by omega⟩⟩) ?_
                rintro _ rfl
                show yi_D zi_Ms d zi_m94 k (239, [(5, .inl (V (a + 3))), (4, .inl z359), (3, .inl (nm (V (a + 1)) - 4)), (2, .inl 4), (1, .inl (ld 0)), (0, .inr (.inr (some 82)))], [.inl (sp_cc 4 (nm (V (a + 1)) - 4) z359 (V (a + 3)))], (I409, L, R, Y), 0, 0) _
                refine yi_D_reti rfl ?_
                first
                | (exfalso; omega)
                | (refine ⟨sp_cc (nm (V (a + 1))) (nm (V (a + 3)) - 4) (if K a = 16 then 7 else 8) (nm (V (a + 2))), I409, by rw [show sp_cc (nm (V (a + 1))) (nm (V (a + 3)) - 4) (if K a = 16 then 7 else 8) (nm (V (a + 2))) = sp_cc 4 (nm (V (a + 1)) - 4) z359 (V (a + 3)) from by (unfold sp_cc; (repeat (first | rw [if_pos (by omega)] | rw [if_neg (by omega)])); omega)], hG425, Or.inl ⟨_, ?_, hf411, hA412⟩⟩; unfold sp_cl; rw [if_pos (by omega)]; unfold sp_pair; (repeat (first | rw [if_pos (by omega)] | rw [if_neg (by omega)])); done)
                | (refine ⟨sp_cc (if K a = 14 then 4 else if K a = 15 then 5 else nm (V a)) (nm (V (a + 1)) - 4) (K (a + 2) - 18) (V (a + 3)), I409, by rw [show sp_cc (if K a = 14 then 4 else if K a = 15 then 5 else nm (V a)) (nm (V (a + 1)) - 4) (K (a + 2) - 18) (V (a + 3)) = sp_cc 4 (nm (V (a + 1)) - 4) z359 (V (a + 3)) from by (unfold sp_cc; (repeat (first | rw [if_pos (by omega)] | rw [if_neg (by omega)])); omega)], hG425, Or.inl ⟨_, ?_, hf411, hA412⟩⟩; unfold sp_cl; rw [if_neg (by omega)]; unfold sp_single; (repeat (first | rw [if_pos (by omega)] | rw [if_neg (by omega)])); done)
              · have hW427 := mt_W_t hW365 (mt_G_F hGa415)
                have hF428 := mt_F_t hF366 (mt_G_F hGa415)
                have hG429 := mt_G_t hG367 hGa415
                have hmc430 := mc_G hmc368 hGa415
                have hz431 : 0 < sp_f P (a + 3) 1 := mt_f_ne hW365 hA370.2 (by omega)
                have hn432 : 0 < I414 82 8 := by rw [he416]; exact hz431
                have hx433 : sp_cl K P V ld nm a = .inr (sp_f P (a + 3) 1) := by
                  first
                  | (exfalso; omega)
                  | (unfold sp_cl; rw [if_pos (by omega)]; unfold sp_pair; (repeat (first | rw [if_pos (by omega)] | rw [if_neg (by omega)])); done)
                  | (unfold sp_cl; rw [if_neg (by omega)]; unfold sp_single; (repeat (first | rw [if_pos (by omega)] | rw [if_neg (by omega)])); done)
                show yi_D zi_Ms d zi_m94 k (209, [(4, .inl z359), (3, .inl (nm (V (a + 1)) - 4)), (2, .inl 4), (1, .inl (ld 0)), (0, .inr (.inr (some 82)))], [.inl z417], (I414, L, R, Y), 0, 0) _
                refine yi_D_run 6 (236, [(5, .inl z417), (4, .inl z359), (3, .inl (nm (V (a + 1)) - 4)), (2, .inl 4), (1, .inl (ld 0)), (0, .inr (.inr (some 82)))], [.inl z417, .inl z359, .inl (nm (V (a + 1)) - 4), .inl 4], (I414, L, R, Y), 0, 0) (fun _ => rfl) ?_
                refine yi_D_calls rfl (q_clause) ?_
                rintro _ ⟨zc, rfl⟩
                show yi_D zi_Ms d zi_m94 k (239, [(5, .inl z417), (4, .inl z359), (3, .inl (nm (V (a + 1)) - 4)), (2, .inl 4), (1, .inl (ld 0)), (0, .inr (.inr (some 82)))], [.inl zc], (I414, L, R, Y), 0, 0) _
                refine yi_D_reti rfl ?_
                exact ⟨_, _, rfl, hG429, Or.inr ⟨_, hx433, hz431, he416⟩⟩
              · have hW434 := mt_W_t hW365 (mt_G_F hGa420)
                have hF435 := mt_F_t hF366 (mt_G_F hGa420)
                have hG436 := mt_G_t hG367 hGa420
                have hmc437 := mc_G hmc368 hGa420
                have hz438 : 0 < sp_f P (a + 3) 4 := mt_f_ne hW365 hA370.2 (by omega)
                have hn439 : 0 < I419 82 8 := by rw [he421]; exact hz438
                have hx440 : sp_cl K P V ld nm a = .inr (sp_f P (a + 3) 4) := by
                  first
                  | (exfalso; omega)
                  | (unfold sp_cl; rw [if_pos (by omega)]; unfold sp_pair; (repeat (first | rw [if_pos (by omega)] | rw [if_neg (by omega)])); done)
                  | (unfold sp_cl; rw [if_neg (by omega)]; unfold sp_single; (repeat (first | rw [if_pos (by omega)] | rw [if_neg (by omega)])); done)
                show yi_D zi_Ms d zi_m94 k (209, [(4, .inl z359), (3, .inl (nm (V (a + 1)) - 4)), (2, .inl 4), (1, .inl (ld 0)), (0, .inr (.inr (some 82)))], [.inl z422], (I419, L, R, Y), 0, 0) _
                refine yi_D_run 6 (236, [(5, .inl z422), (4, .inl z359), (3, .inl (nm (V (a + 1)) - 4)), (2, .inl 4), (1, .inl (ld 0)), (0, .inr (.inr (some 82)))], [.inl z422, .inl z359, .inl (nm (V (a + 1)) - 4), .inl 4], (I419, L, R, Y), 0, 0) (fun _ => rfl) ?_
                refine yi_D_calls rfl (q_clause) ?_
                rintro _ ⟨zc, rfl⟩
                show yi_D zi_Ms d zi_m94 k (239, [(5, .inl z422), (4, .inl z359), (3, .inl (nm (V (a + 1)) - 4)), (2, .inl 4), (1, .inl (ld 0)), (0, .inr (.inr (some 82)))], [.inl zc], (I419, L, R, Y), 0, 0) _
                refine yi_D_reti rfl ?_
                exact ⟨_, _, rfl, hG436, Or.inr ⟨_, hx440, hz438, he421⟩⟩
          · refine yi_D_if1 false rfl (yi_ge_f h361) ?_
            refine yi_D_run 2 (182, [(4, .inl z359), (3, .inl (nm (V (a + 1)) - 4)), (2, .inl 4), (1, .inl (ld 0)), (0, .inr (.inr (some 82)))], [.inl 1, .inr (.inr (some 82))], (I336, L, R, Y), 0, 0) (fun _ => rfl) ?_
            refine yi_D_callv rfl (q_wrong_z ⟨by omega, by omega⟩ hW355 hf338 hA339) ?_
            rintro _ ⟨I441, rfl, hg442, he443⟩
            have hGw444 : mt_G I336 I441 := fun p k hp => hg442 p k (by omega)
            have hW445 := mt_W_t hW355 (mt_G_F hGw444)
            have hF446 := mt_F_t hF356 (mt_G_F hGw444)
            have hG447 := mt_G_t hG357 hGw444
            have hmc448 := mc_G hmc358 hGw444
            have hz449 : 0 < sp_f P (a + 2) 1 := mt_f_ne hW355 hA339.2 (by omega)
            have hn450 : 0 < I441 82 8 := by rw [he443]; exact hz449
            have hx451 : sp_cl K P V ld nm a = .inr (sp_f P (a + 2) 1) := by
              first
              | (exfalso; omega)
              | (unfold sp_cl; rw [if_pos (by omega)]; unfold sp_pair; (repeat (first | rw [if_pos (by omega)] | rw [if_neg (by omega)])); done)
              | (unfold sp_cl; rw [if_neg (by omega)]; unfold sp_single; (repeat (first | rw [if_pos (by omega)] | rw [if_neg (by omega)])); done)
            show yi_D zi_Ms d zi_m94 k (185, [(4, .inl z359), (3, .inl (nm (V (a + 1)) - 4)), (2, .inl 4), (1, .inl (ld 0)), (0, .inr (.inr (some 82)))], [], (I441, L, R, Y), 0, 0) _
            refine yi_D_run 1 (186, [(4, .inl z359), (3, .inl (nm (V (a + 1)) - 4)), (2, .inl 4), (1, .inl (ld 0)), (0, .inr (.inr (some 82)))], [.inl 0], (I441, L, R, Y), 0, 0) (fun _ => rfl) ?_
            refine yi_D_reti rfl ?_
            exact ⟨_, _, rfl, hG447, Or.inr ⟨_, hx451, hz449, he443⟩⟩
        · have hW452 := mt_W_t hW327 (mt_G_F hGa342)
          have hF453 := mt_F_t hF328 (mt_G_F hGa342)
          have hG454 := mt_G_t hG329 hGa342
          have hmc455 := mc_G hmc330 hGa342
          have hz456 : 0 < sp_f P (a + 1) 1 := mt_f_ne hW327 hA332.2 (by omega)
          have hn457 : 0 < I341 82 8 := by rw [he343]; exact hz456
          have hx458 : sp_cl K P V ld nm a = .inr (sp_f P (a + 1) 1) := by
            first
            | (exfalso; omega)
            | (unfold sp_cl; rw [if_pos (by omega)]; unfold sp_pair; (repeat (first | rw [if_pos (by omega)] | rw [if_neg (by omega)])); done)
            | (unfold sp_cl; rw [if_neg (by omega)]; unfold sp_single; (repeat (first | rw [if_pos (by omega)] | rw [if_neg (by omega)])); done)
          show yi_D zi_Ms d zi_m94 k (153, [(2, .inl 4), (1, .inl (ld 0)), (0, .inr (.inr (some 82)))], [.inl z344], (I341, L, R, Y), 0, 0) _
          refine yi_D_run 2 (155, [(3, .inl z344), (2, .inl 4), (1, .inl (ld 0)), (0, .inr (.inr (some 82)))], [.inr (.inr (some 82))], (I341, L, R, Y), 0, 0) (fun _ => rfl) ?_
          refine yi_D_gi (v := I341 82 8) rfl rfl rfl rfl (fun _ => ?_)
          have h459 : ¬ ((I341 82 8) ≤ 0) := by omega
          refine yi_D_if1 false rfl (yi_le_f h459) ?_
          refine yi_D_run 4 (177, [(4, .inl (-1)), (3, .inl z344), (2, .inl 4), (1, .inl (ld 0)), (0, .inr (.inr (some 82)))], [.inl (-1)], (I341, L, R, Y), 0, 0) (fun _ => rfl) ?_
          refine yi_D_if1 false rfl (by decide) ?_
          refine yi_D_run 2 (182, [(4, .inl (-1)), (3, .inl z344), (2, .inl 4), (1, .inl (ld 0)), (0, .inr (.inr (some 82)))], [.inl 1, .inr (.inr (some 82))], (I341, L, R, Y), 0, 0) (fun _ => rfl) ?_
          refine yi_D_callv rfl (q_wrong_f hW452 hn457) ?_
          rintro _ rfl
          show yi_D zi_Ms d zi_m94 k (185, [(4, .inl (-1)), (3, .inl z344), (2, .inl 4), (1, .inl (ld 0)), (0, .inr (.inr (some 82)))], [], (I341, L, R, Y), 0, 0) _
          refine yi_D_run 1 (186, [(4, .inl (-1)), (3, .inl z344), (2, .inl 4), (1, .inl (ld 0)), (0, .inr (.inr (some 82)))], [.inl 0], (I341, L, R, Y), 0, 0) (fun _ => rfl) ?_
          refine yi_D_reti rfl ?_
          exact ⟨_, _, rfl, hG454, Or.inr ⟨_, hx458, hz456, he343⟩⟩
        · have hW460 := mt_W_t hW327 (mt_G_F hGa347)
          have hF461 := mt_F_t hF328 (mt_G_F hGa347)
          have hG462 := mt_G_t hG329 hGa347
          have hmc463 := mc_G hmc330 hGa347
          have hz464 : 0 < sp_f P (a + 1) 2 := mt_f_ne hW327 hA332.2 (by omega)
          have hn465 : 0 < I346 82 8 := by rw [he348]; exact hz464
          have hx466 : sp_cl K P V ld nm a = .inr (sp_f P (a + 1) 2) := by
            first
            | (exfalso; omega)
            | (unfold sp_cl; rw [if_pos (by omega)]; unfold sp_pair; (repeat (first | rw [if_pos (by omega)] | rw [if_neg (by omega)])); done)
            | (unfold sp_cl; rw [if_neg (by omega)]; unfold sp_single; (repeat (first | rw [if_pos (by omega)] | rw [if_neg (by omega)])); done)
          show yi_D zi_Ms d zi_m94 k (153, [(2, .inl 4), (1, .inl (ld 0)), (0, .inr (.inr (some 82)))], [.inl z349], (I346, L, R, Y), 0, 0) _
          refine yi_D_run 2 (155, [(3, .inl z349), (2, .inl 4), (1, .inl (ld 0)), (0, .inr (.inr (some 82)))], [.inr (.inr (some 82))], (I346, L, R, Y), 0, 0) (fun _ => rfl) ?_
          refine yi_D_gi (v := I346 82 8) rfl rfl rfl rfl (fun _ => ?_)
          have h467 : ¬ ((I346 82 8) ≤ 0) := by omega
          refine yi_D_if1 false rfl (yi_le_f h467) ?_
          refine yi_D_run 4 (177, [(4, .inl (-1)), (3, .inl z349), (2, .inl 4), (1, .inl (ld 0)), (0, .inr (.inr (some 82)))], [.inl (-1)], (I346, L, R, Y), 0, 0) (fun _ => rfl) ?_
          refine yi_D_if1 false rfl (by decide) ?_
          refine yi_D_run 2 (182, [(4, .inl (-1)), (3, .inl z349), (2, .inl 4), (1, .inl (ld 0)), (0, .inr (.inr (some 82)))], [.inl 1, .inr (.inr (some 82))], (I346, L, R, Y), 0, 0) (fun _ => rfl) ?_
          refine yi_D_callv rfl (q_wrong_f hW460 hn465) ?_
          rintro _ rfl
          show yi_D zi_Ms d zi_m94 k (185, [(4, .inl (-1)), (3, .inl z349), (2, .inl 4), (1, .inl (ld 0)), (0, .inr (.inr (some 82)))], [], (I346, L, R, Y), 0, 0) _
          refine yi_D_run 1 (186, [(4, .inl (-1)), (3, .inl z349), (2, .inl 4), (1, .inl (ld 0)), (0, .inr (.inr (some 82)))], [.inl 0], (I346, L, R, Y), 0, 0) (fun _ => rfl) ?_
          refine yi_D_reti rfl ?_
          exact ⟨_, _, rfl, hG462, Or.inr ⟨_, hx466, hz464, he348⟩⟩
        · have hW468 := mt_W_t hW327 (mt_G_F hGa352)
          have hF469 := mt_F_t hF328 (mt_G_F hGa352)
          have hG470 := mt_G_t hG329 hGa352
          have hmc471 := mc_G hmc330 hGa352
          have hz472 : 0 < sp_f P (a + 1) 3 := mt_f_ne hW327 hA332.2 (by omega)
          have hn473 : 0 < I351 82 8 := by rw [he353]; exact hz472
          have hx474 : sp_cl K P V ld nm a = .inr (sp_f P (a + 1) 3) := by
            first
            | (exfalso; omega)
            | (unfold sp_cl; rw [if_pos (by omega)]; unfold sp_pair; (repeat (first | rw [if_pos (by omega)] | rw [if_neg (by omega)])); done)
            | (unfold sp_cl; rw [if_neg (by omega)]; unfold sp_single; (repeat (first | rw [if_pos (by omega)] | rw [if_neg (by omega)])); done)
          show yi_D zi_Ms d zi_m94 k (153, [(2, .inl 4), (1, .inl (ld 0)), (0, .inr (.inr (some 82)))], [.inl z354], (I351, L, R, Y), 0, 0) _
          refine yi_D_run 2 (155, [(3, .inl z354), (2, .inl 4), (1, .inl (ld 0)), (0, .inr (.inr (some 82)))], [.inr (.inr (some 82))], (I351, L, R, Y), 0, 0) (fun _ => rfl) ?_
          refine yi_D_gi (v := I351 82 8) rfl rfl rfl rfl (fun _ => ?_)
          have h475 : ¬ ((I351 82 8) ≤ 0) := by omega
          refine yi_D_if1 false rfl (yi_le_f h475) ?_
          refine yi_D_run 4 (177, [(4, .inl (-1)), (3, .inl z354), (2, .inl 4), (1, .inl (ld 0)), (0, .inr (.inr (some 82)))], [.inl (-1)], (I351, L, R, Y), 0, 0) (fun _ => rfl) ?_
          refine yi_D_if1 false rfl (by decide) ?_
          refine yi_D_run 2 (182, [(4, .inl (-1)), (3, .inl z354), (2, .inl 4), (1, .inl (ld 0)), (0, .inr (.inr (some 82)))], [.inl 1, .inr (.inr (some 82))], (I351, L, R, Y), 0, 0) (fun _ => rfl) ?_
          refine yi_D_callv rfl (q_wrong_f hW468 hn473) ?_
          rintro _ rfl
          show yi_D zi_Ms d zi_m94 k (185, [(4, .inl (-1)), (3, .inl z354), (2, .inl 4), (1, .inl (ld 0)), (0, .inr (.inr (some 82)))], [], (I351, L, R, Y), 0, 0) _
          refine yi_D_run 1 (186, [(4, .inl (-1)), (3, .inl z354), (2, .inl 4), (1, .inl (ld 0)), (0, .inr (.inr (some 82)))], [.inl 0], (I351, L, R, Y), 0, 0) (fun _ => rfl) ?_
          refine yi_D_reti rfl ?_
          exact ⟨_, _, rfl, hG470, Or.inr ⟨_, hx474, hz472, he353⟩⟩
      · show yi_D zi_Ms d zi_m94 k (92, [(1, .inl (ld 0)), (0, .inr (.inr (some 82)))], [.inl 0], (I, L, R, Y), 0, 0) _
        refine yi_D_if1 true rfl (by decide) ?_
        refine yi_D_run 2 (102, [(1, .inl (ld 0)), (0, .inr (.inr (some 82)))], [.inl 11, .inr (.inr (some 82))], (I, L, R, Y), 0, 0) (fun _ => rfl) ?_
        refine yi_D_callv rfl (q_isWord_z (by omega) (by omega) hW hf hA) ?_
        rintro _ (⟨c476, rfl⟩ | ⟨c476, rfl⟩)
        · show yi_D zi_Ms d zi_m94 k (105, [(1, .inl (ld 0)), (0, .inr (.inr (some 82)))], [.inl 1], (I, L, R, Y), 0, 0) _
          refine yi_D_if1 false rfl (by decide) ?_
          refine yi_D_run 5 (116, [(2, .inl 5), (1, .inl (ld 0)), (0, .inr (.inr (some 82)))], [.inr (.inr (some 82)), .inr (.inr (some 82))], (I, L, R, Y), 0, 0) (fun _ => rfl) ?_
          refine yi_D_gi (v := (a : Int)) rfl rfl rfl hA.1 (fun _ => ?_)
          refine yi_D_run 1 (120, [(2, .inl 5), (1, .inl (ld 0)), (0, .inr (.inr (some 82)))], [.inl 5, .inl (a : Int), .inr (.inr (some 82))], (I, L, R, Y), 0, 0) (fun _ => rfl) ?_
          refine yi_D_if1 true rfl (by decide) ?_
          refine yi_D_run 1 (128, [(2, .inl 5), (1, .inl (ld 0)), (0, .inr (.inr (some 82)))], [.inl 1, .inl (a : Int), .inr (.inr (some 82))], (I, L, R, Y), 0, 0) (fun _ => rfl) ?_
          refine yi_D_iadd rfl ((a : Int) + 1) (yi_wn (by omega) (by omega)) ?_
          refine yi_D_pi rfl (fun _ => ?_)
          generalize w478 : yi_u I 82 7 ((a : Int) + 1) = I477
          have hGn479 : mt_G I I477 := fun p k hp => by rw [← w478, yi_u_ne _ _ (by omega)]
          have hW480 := mt_W_t hW (mt_G_F hGn479)
          have hF481 := (mt_G_F hGn479)
          have hG482 := hGn479
          have hmc483 := mc_G hm hGn479
          have hf484 : I477 82 8 = 0 := by rw [← w478, yi_u_ne _ _ (by omega)]; exact hf
          have hA485 : mt_A I477 te (a + 1) := ⟨by rw [← w478, yi_u_eq]; omega, mt_lt hW480.2.1 hA.2 (by omega)⟩
          refine yi_D_run 1 (133, [(2, .inl 5), (1, .inl (ld 0)), (0, .inr (.inr (some 82)))], [.inl 5], (I477, L, R, Y), 0, 0) (fun _ => rfl) ?_
          refine yi_D_if1 true rfl (by decide) ?_
          refine yi_D_run 5 (150, [(2, .inl 5), (1, .inl (ld 0)), (0, .inr (.inr (some 82)))], [.inl (-1), .inl 1, .inr (.inr (some 82))], (I477, L, R, Y), 0, 0) (fun _ => rfl) ?_
          refine yi_D_callv rfl (q_takeTold1_z (bt := (-1)) hW480 hf484 hA485) ?_
          rintro _ (⟨c486, c487, c488, I489, rfl, hGa490, hf491, hA492⟩ | ⟨c493, z497, I494, rfl, hGa495, he496⟩ | ⟨c498, z502, I499, rfl, hGa500, he501⟩ | ⟨c503, z507, I504, rfl, hGa505, he506⟩)
          · have hA492 : mt_A I489 te (a + 2) := hA492
            have hW508 := mt_W_t hW480 (mt_G_F hGa490)
            have hF509 := mt_F_t hF481 (mt_G_F hGa490)
            have hG510 := mt_G_t hG482 hGa490
            have hmc511 := mc_G hmc483 hGa490
            show yi_D zi_Ms d zi_m94 k (153, [(2, .inl 5), (1, .inl (ld 0)), (0, .inr (.inr (some 82)))], [.inl (nm (V (a + 1)) - 4)], (I489, L, R, Y), 0, 0) _
            refine yi_D_run 2 (155, [(3, .inl (nm (V (a + 1)) - 4)), (2, .inl 5), (1, .inl (ld 0)), (0, .inr (.inr (some 82)))], [.inr (.inr (some 82))], (I489, L, R, Y), 0, 0) (fun _ => rfl) ?_
            refine yi_D_gi (v := 0) rfl rfl rfl hf491 (fun _ => ?_)
            refine yi_D_if1 true rfl (by decide) ?_
            refine yi_D_run 3 (170, [(3, .inl (nm (V (a + 1)) - 4)), (2, .inl 5), (1, .inl (ld 0)), (0, .inr (.inr (some 82)))], [.inl 7, .inl 14, .inr (.inr (some 82))], (I489, L, R, Y), 0, 0) (fun _ => rfl) ?_
            refine yi_D_callv rfl (q_wordHere_z (by omega) (by omega) (by omega) hW508 hf491 hA492) ?_
            rintro _ ⟨z512, rfl, hz513⟩
            show yi_D zi_Ms d zi_m94 k (173, [(3, .inl (nm (V (a + 1)) - 4)), (2, .inl 5), (1, .inl (ld 0)), (0, .inr (.inr (some 82)))], [.inl z512], (I489, L, R, Y), 0, 0) _
            refine yi_D_run 2 (177, [(4, .inl z512), (3, .inl (nm (V (a + 1)) - 4)), (2, .inl 5), (1, .inl (ld 0)), (0, .inr (.inr (some 82)))], [.inl z512], (I489, L, R, Y), 0, 0) (fun _ => rfl) ?_
            by_cases h514 : 0 ≤ z512
            · refine yi_D_if1 true rfl (yi_ge_t h514) ?_
              refine yi_D_run 2 (189, [(4, .inl z512), (3, .inl (nm (V (a + 1)) - 4)), (2, .inl 5), (1, .inl (ld 0)), (0, .inr (.inr (some 82)))], [.inr (.inr (some 82)), .inr (.inr (some 82))], (I489, L, R, Y), 0, 0) (fun _ => rfl) ?_
              refine yi_D_gi (v := ((a + 2 : Nat) : Int)) rfl rfl rfl hA492.1 (fun _ => ?_)
              refine yi_D_run 1 (193, [(4, .inl z512), (3, .inl (nm (V (a + 1)) - 4)), (2, .inl 5), (1, .inl (ld 0)), (0, .inr (.inr (some 82)))], [.inl 1, .inl ((a + 2 : Nat) : Int), .inr (.inr (some 82))], (I489, L, R, Y), 0, 0) (fun _ => rfl) ?_
              refine yi_D_iadd rfl (((a + 2 : Nat) : Int) + 1) (yi_wn (by omega) (by omega)) ?_
              refine yi_D_pi rfl (fun _ => ?_)
              generalize w516 : yi_u I489 82 7 (((a + 2 : Nat) : Int) + 1) = I515
              have hGn517 : mt_G I489 I515 := fun p k hp => by rw [← w516, yi_u_ne _ _ (by omega)]
              have hW518 := mt_W_t hW508 (mt_G_F hGn517)
              have hF519 := mt_F_t hF509 (mt_G_F hGn517)
              have hG520 := mt_G_t hG510 hGn517
              have hmc521 := mc_G hmc511 hGn517
              have hf522 : I515 82 8 = 0 := by rw [← w516, yi_u_ne _ _ (by omega)]; exact hf491
              have hA523 : mt_A I515 te (a + 3) := ⟨by rw [← w516, yi_u_eq]; omega, mt_lt hW518.2.1 hA492.2 (by omega)⟩
              refine yi_D_run 2 (200, [(4, .inl z512), (3, .inl (nm (V (a + 1)) - 4)), (2, .inl 5), (1, .inl (ld 0)), (0, .inr (.inr (some 82)))], [.inl 2, .inl z512], (I515, L, R, Y), 0, 0) (fun _ => rfl) ?_
              by_cases h524 : 2 < z512
              · refine yi_D_if2 true rfl (yi_gt_t h524) ?_
                refine yi_D_run 2 (215, [(4, .inl z512), (3, .inl (nm (V (a + 1)) - 4)), (2, .inl 5), (1, .inl (ld 0)), (0, .inr (.inr (some 82)))], [.inl 5, .inl z512], (I515, L, R, Y), 0, 0) (fun _ => rfl) ?_
                by_cases h525 : z512 < 5
                · refine yi_D_if2 true rfl (yi_lt_t h525) ?_
                  refine yi_D_run 6 (236, [(5, .inl 0), (4, .inl z512), (3, .inl (nm (V (a + 1)) - 4)), (2, .inl 5), (1, .inl (ld 0)), (0, .inr (.inr (some 82)))], [.inl 0, .inl z512, .inl (nm (V (a + 1)) - 4), .inl 5], (I515, L, R, Y), 0, 0) (fun _ => rfl) ?_
                  refine yi_D_calls rfl (q_clauseE (x0 := 5) (x1 := nm (V (a + 1)) - 4) (x2 := z512) (x3 := 0) ⟨⟨by omega, by omega⟩, ⟨by omega, by omega⟩, ⟨by omega, by omega⟩, ⟨by omega, by omega⟩⟩) ?_
                  rintro _ rfl
                  show yi_D zi_Ms d zi_m94 k (239, [(5, .inl 0), (4, .inl z512), (3, .inl (nm (V (a + 1)) - 4)), (2, .inl 5), (1, .inl (ld 0)), (0, .inr (.inr (some 82)))], [.inl (sp_cc 5 (nm (V (a + 1)) - 4) z512 0)], (I515, L, R, Y), 0, 0) _
                  refine yi_D_reti rfl ?_
                  first
                  | (exfalso; omega)
                  | (refine ⟨sp_cc (nm (V (a + 1))) (nm (V (a + 3)) - 4) (if K a = 16 then 7 else 8) (nm (V (a + 2))), I515, by rw [show sp_cc (nm (V (a + 1))) (nm (V (a + 3)) - 4) (if K a = 16 then 7 else 8) (nm (V (a + 2))) = sp_cc 5 (nm (V (a + 1)) - 4) z512 0 from by (unfold sp_cc; (repeat (first | rw [if_pos (by omega)] | rw [if_neg (by omega)])); omega)], hG520, Or.inl ⟨_, ?_, hf522, hA523⟩⟩; unfold sp_cl; rw [if_pos (by omega)]; unfold sp_pair; (repeat (first | rw [if_pos (by omega)] | rw [if_neg (by omega)])); done)
                  | (refine ⟨sp_cc (if K a = 14 then 4 else if K a = 15 then 5 else nm (V a)) (nm (V (a + 1)) - 4) (K (a + 2) - 18) 0, I515, by rw [show sp_cc (if K a = 14 then 4 else if K a = 15 then 5 else nm (V a)) (nm (V (a + 1)) - 4) (K (a + 2) - 18) 0 = sp_cc 5 (nm (V (a + 1)) - 4) z512 0 from by (unfold sp_cc; (repeat (first | rw [if_pos (by omega)] | rw [if_neg (by omega)])); omega)], hG520, Or.inl ⟨_, ?_, hf522, hA523⟩⟩; unfold sp_cl; rw [if_neg (by omega)]; unfold sp_single; (repeat (first | rw [if_pos (by omega)] | rw [if_neg (by omega)])); done)
                · refine yi_D_if2 false rfl (yi_lt_f h525) ?_
                  refine yi_D_run 3 (221, [(4, .inl z512), (3, .inl (nm (V (a + 1)) - 4)), (2, .inl 5), (1, .inl (ld 0)), (0, .inr (.inr (some 82)))], [.inl (ld 0), .inl 0, .inr (.inr (some 82))], (I515, L, R, Y), 0, 0) (fun _ => rfl) ?_
                  have hlo : sp_lo (K (a + 2)) = 0 := if_neg (by omega)
                  refine yi_D_callv rfl (q_takeNumber_z (lo := 0) (hi := ld 0) hW518 hf522 hA523) ?_
                  rintro _ (⟨c526, c527, I528, rfl, hGa529, hf530, hA531⟩ | ⟨c532, z536, I533, rfl, hGa534, he535⟩ | ⟨c537, z541, I538, rfl, hGa539, he540⟩)
                  · have hA531 : mt_A I528 te (a + 4) := hA531
                    have hW542 := mt_W_t hW518 (mt_G_F hGa529)
                    have hF543 := mt_F_t hF519 (mt_G_F hGa529)
                    have hG544 := mt_G_t hG520 hGa529
                    have hmc545 := mc_G hmc521 hGa529
                    show yi_D zi_Ms d zi_m94 k (224, [(4, .inl z512), (3, .inl (nm (V (a + 1)) - 4)), (2, .inl 5), (1, .inl (ld 0)), (0, .inr (.inr (some 82)))], [.inl (V (a + 3))], (I528, L, R, Y), 0, 0) _
                    refine yi_D_run 6 (236, [(5, .inl (V (a + 3))), (4, .inl z512), (3, .inl (nm (V (a + 1)) - 4)), (2, .inl 5), (1, .inl (ld 0)), (0, .inr (.inr (some 82)))], [.inl (V (a + 3)), .inl z512, .inl (nm (V (a + 1)) - 4), .inl 5], (I528, L, R, Y), 0, 0) (fun _ => rfl) ?_
                    refine yi_D_calls rfl (q_clauseE (x0 := 5) (x1 := nm (V (a + 1)) - 4) (x2 := z512) (x3 := V (a + 3)) ⟨⟨by omega, by omega⟩, ⟨by omega, by omega⟩, ⟨by omega, by omega⟩, ⟨by omega, by omega⟩⟩) ?_
                    rintro _ rfl
                    show yi_D zi_Ms d zi_m94 k (239, [(5, .inl (V (a + 3))), (4, .inl z512), (3, .inl (nm (V (a + 1)) - 4)), (2, .inl 5), (1, .inl (ld 0)), (0, .inr (.inr (some 82)))], [.inl (sp_cc 5 (nm (V (a + 1)) - 4) z512 (V (a + 3)))], (I528, L, R, Y), 0, 0) _
                    refine yi_D_reti rfl ?_
                    first
                    | (exfalso; omega)
                    | (refine ⟨sp_cc (nm (V (a + 1))) (nm (V (a + 3)) - 4) (if K a = 16 then 7 else 8) (nm (V (a + 2))), I528, by rw [show sp_cc (nm (V (a + 1))) (nm (V (a + 3)) - 4) (if K a = 16 then 7 else 8) (nm (V (a + 2))) = sp_cc 5 (nm (V (a + 1)) - 4) z512 (V (a + 3)) from by (unfold sp_cc; (repeat (first | rw [if_pos (by omega)] | rw [if_neg (by omega)])); omega)], hG544, Or.inl ⟨_, ?_, hf530, hA531⟩⟩; unfold sp_cl; rw [if_pos (by omega)]; unfold sp_pair; (repeat (first | rw [if_pos (by omega)] | rw [if_neg (by omega)])); done)
                    | (refine ⟨sp_cc (if K a = 14 then 4 else if K a = 15 then 5 else nm (V a)) (nm (V (a + 1)) - 4) (K (a + 2) - 18) (V (a + 3)), I528, by rw [show sp_cc (if K a = 14 then 4 else if K a = 15 then 5 else nm (V a)) (nm (V (a + 1)) - 4) (K (a + 2) - 18) (V (a + 3)) = sp_cc 5 (nm (V (a + 1)) - 4) z512 (V (a + 3)) from by (unfold sp_cc; (repeat (first | rw [if_pos (by omega)] | rw [if_neg (by omega)])); omega)], hG544, Or.inl ⟨_, ?_, hf530, hA531⟩⟩; unfold sp_cl; rw [if_neg (by omega)]; unfold sp_single; (repeat (first | rw [if_pos (by omega)] | rw [if_neg (by omega)])); done)
                  · have hW546 := mt_W_t hW518 (mt_G_F hGa534)
                    have hF547 := mt_F_t hF519 (mt_G_F hGa534)
                    have hG548 := mt_G_t hG520 hGa534
                    have hmc549 := mc_G hmc521 hGa534
                    have hz550 : 0 < sp_f P (a + 3) 1 := mt_f_ne hW518 hA523.2 (by omega)
                    have hn551 : 0 < I533 82 8 := by rw [he535]; exact hz550
                    have hx552 : sp_cl K P V ld nm a = .inr (sp_f P (a + 3) 1) := by
                      first
                      | (exfalso; omega)
                      | (unfold sp_cl; rw [if_pos (by omega)]; unfold sp_pair; (repeat (first | rw [if_pos (by omega)] | rw [if_neg (by omega)])); done)
                      | (unfold sp_cl; rw [if_neg (by omega)]; unfold sp_single; (repeat (first | rw [if_pos (by omega)] | rw [if_neg (by omega)])); done)
                    show yi_D zi_Ms d zi_m94 k (224, [(4, .inl z512), (3, .inl (nm (V (a + 1)) - 4)), (2, .inl 5), (1, .inl (ld 0)), (0, .inr (.inr (some 82)))], [.inl z536], (I533, L, R, Y), 0, 0) _
                    refine yi_D_run 6 (236, [(5, .inl z536), (4, .inl z512), (3, .inl (nm (V (a + 1)) - 4)), (2, .inl 5), (1, .inl (ld 0)), (0, .inr (.inr (some 82)))], [.inl z536, .inl z512, .inl (nm (V (a + 1)) - 4), .inl 5], (I533, L, R, Y), 0, 0) (fun _ => rfl) ?_
                    refine yi_D_calls rfl (q_clause) ?_
                    rintro _ ⟨zc, rfl⟩
                    show yi_D zi_Ms d zi_m94 k (239, [(5, .inl z536), (4, .inl z512), (3, .inl (nm (V (a + 1)) - 4)), (2, .inl 5), (1, .inl (ld 0)), (0, .inr (.inr (some 82)))], [.inl zc], (I533, L, R, Y), 0, 0) _
                    refine yi_D_reti rfl ?_
                    exact ⟨_, _, rfl, hG548, Or.inr ⟨_, hx552, hz550, he535⟩⟩
                  · have hW553 := mt_W_t hW518 (mt_G_F hGa539)
                    have hF554 := mt_F_t hF519 (mt_G_F hGa539)
                    have hG555 := mt_G_t hG520 hGa539
                    have hmc556 := mc_G hmc521 hGa539
                    have hz557 : 0 < sp_f P (a + 3) 4 := mt_f_ne hW518 hA523.2 (by omega)
                    have hn558 : 0 < I538 82 8 := by rw [he540]; exact hz557
                    have hx559 : sp_cl K P V ld nm a = .inr (sp_f P (a + 3) 4) := by
                      first
                      | (exfalso; omega)
                      | (unfold sp_cl; rw [if_pos (by omega)]; unfold sp_pair; (repeat (first | rw [if_pos (by omega)] | rw [if_neg (by omega)])); done)
                      | (unfold sp_cl; rw [if_neg (by omega)]; unfold sp_single; (repeat (first | rw [if_pos (by omega)] | rw [if_neg (by omega)])); done)
                    show yi_D zi_Ms d zi_m94 k (224, [(4, .inl z512), (3, .inl (nm (V (a + 1)) - 4)), (2, .inl 5), (1, .inl (ld 0)), (0, .inr (.inr (some 82)))], [.inl z541], (I538, L, R, Y), 0, 0) _
                    refine yi_D_run 6 (236, [(5, .inl z541), (4, .inl z512), (3, .inl (nm (V (a + 1)) - 4)), (2, .inl 5), (1, .inl (ld 0)), (0, .inr (.inr (some 82)))], [.inl z541, .inl z512, .inl (nm (V (a + 1)) - 4), .inl 5], (I538, L, R, Y), 0, 0) (fun _ => rfl) ?_
                    refine yi_D_calls rfl (q_clause) ?_
                    rintro _ ⟨zc, rfl⟩
                    show yi_D zi_Ms d zi_m94 k (239, [(5, .inl z541), (4, .inl z512), (3, .inl (nm (V (a + 1)) - 4)), (2, .inl 5), (1, .inl (ld 0)), (0, .inr (.inr (some 82)))], [.inl zc], (I538, L, R, Y), 0, 0) _
                    refine yi_D_reti rfl ?_
                    exact ⟨_, _, rfl, hG555, Or.inr ⟨_, hx559, hz557, he540⟩⟩
              · refine yi_D_if2 false rfl (yi_gt_f h524) ?_
                refine yi_D_run 3 (206, [(4, .inl z512), (3, .inl (nm (V (a + 1)) - 4)), (2, .inl 5), (1, .inl (ld 0)), (0, .inr (.inr (some 82)))], [.inl (ld 0), .inl 1, .inr (.inr (some 82))], (I515, L, R, Y), 0, 0) (fun _ => rfl) ?_
                have hlo : sp_lo (K (a + 2)) = 1 := if_pos (by omega)
                refine yi_D_callv rfl (q_takeNumber_z (lo := 1) (hi := ld 0) hW518 hf522 hA523) ?_
                rintro _ (⟨c560, c561, I562, rfl, hGa563, hf564, hA565⟩ | ⟨c566, z570, I567, rfl, hGa568, he569⟩ | ⟨c571, z575, I572, rfl, hGa573, he574⟩)
                · have hA565 : mt_A I562 te (a + 4) := hA565
                  have hW576 := mt_W_t hW518 (mt_G_F hGa563)
                  have hF577 := mt_F_t hF519 (mt_G_F hGa563)
                  have hG578 := mt_G_t hG520 hGa563
                  have hmc579 := mc_G hmc521 hGa563
                  show yi_D zi_Ms d zi_m94 k (209, [(4, .inl z512), (3, .inl (nm (V (a + 1)) - 4)), (2, .inl 5), (1, .inl (ld 0)), (0, .inr (.inr (some 82)))], [.inl (V (a + 3))], (I562, L, R, Y), 0, 0) _
                  refine yi_D_run 6 (236, [(5, .inl (V (a + 3))), (4, .inl z512), (3, .inl (nm (V (a + 1)) - 4)), (2, .inl 5), (1, .inl (ld 0)), (0, .inr (.inr (some 82)))], [.inl (V (a + 3)), .inl z512, .inl (nm (V (a + 1)) - 4), .inl 5], (I562, L, R, Y), 0, 0) (fun _ => rfl) ?_
                  refine yi_D_calls rfl (q_clauseE (x0 := 5) (x1 := nm (V (a + 1)) - 4) (x2 := z512) (x3 := V (a + 3)) ⟨⟨by omega, by omega⟩, ⟨by omega, by omega⟩, ⟨by omega, by omega⟩, ⟨by omega, by omega⟩⟩) ?_
                  rintro _ rfl
                  show yi_D zi_Ms d zi_m94 k (239, [(5, .inl (V (a + 3))), (4, .inl z512), (3, .inl (nm (V (a + 1)) - 4)), (2, .inl 5), (1, .inl (ld 0)), (0, .inr (.inr (some 82)))], [.inl (sp_cc 5 (nm (V (a + 1)) - 4) z512 (V (a + 3)))], (I562, L, R, Y), 0, 0) _
                  refine yi_D_reti rfl ?_
                  first
                  | (exfalso; omega)
                  | (refine ⟨sp_cc (nm (V (a + 1))) (nm (V (a + 3)) - 4) (if K a = 16 then 7 else 8) (nm (V (a + 2))), I562, by rw [show sp_cc (nm (V (a + 1))) (nm (V (a + 3)) - 4) (if K a = 16 then 7 else 8) (nm (V (a + 2))) = sp_cc 5 (nm (V (a + 1)) - 4) z512 (V (a + 3)) from by (unfold sp_cc; (repeat (first | rw [if_pos (by omega)] | rw [if_neg (by omega)])); omega)], hG578, Or.inl ⟨_, ?_, hf564, hA565⟩⟩; unfold sp_cl; rw [if_pos (by omega)]; unfold sp_pair; (repeat (first | rw [if_pos (by omega)] | rw [if_neg (by omega)])); done)
                  | (refine ⟨sp_cc (if K a = 14 then 4 else if K a = 15 then 5 else nm (V a)) (nm (V (a + 1)) - 4) (K (a + 2) - 18) (V (a + 3)), I562, by rw [show sp_cc (if K a = 14 then 4 else if K a = 15 then 5 else nm (V a)) (nm (V (a + 1)) - 4) (K (a + 2) - 18) (V (a + 3)) = sp_cc 5 (nm (V (a + 1)) - 4) z512 (V (a + 3)) from by (unfold sp_cc; (repeat (first | rw [if_pos (by omega)] | rw [if_neg (by omega)])); omega)], hG578, Or.inl ⟨_, ?_, hf564, hA565⟩⟩; unfold sp_cl; rw [if_neg (by omega)]; unfold sp_single; (repeat (first | rw [if_pos (by omega)] | rw [if_neg (by omega)])); done)
                · have hW580 := mt_W_t hW518 (mt_G_F hGa568)
                  have hF581 := mt_F_t hF519 (mt_G_F hGa568)
                  have hG582 := mt_G_t hG520 hGa568
                  have hmc583 := mc_G hmc521 hGa568
                  have hz584 : 0 < sp_f P (a + 3) 1 := mt_f_ne hW518 hA523.2 (by omega)
                  have hn585 : 0 < I567 82 8 := by rw [he569]; exact hz584
                  have hx586 : sp_cl K P V ld nm a = .inr (sp_f P (a + 3) 1) := by
                    first
                    | (exfalso; omega)
                    | (unfold sp_cl; rw [if_pos (by omega)]; unfold sp_pair; (repeat (first | rw [if_pos (by omega)] | rw [if_neg (by omega)])); done)
                    | (unfold sp_cl; rw [if_neg (by omega)]; unfold sp_single; (repeat (first | rw [if_pos (by omega)] | rw [if_neg (by omega)])); done)
                  show yi_D zi_Ms d zi_m94 k (209, [(4, .inl z512), (3, .inl (nm (V (a + 1)) - 4)), (2, .inl 5), (1, .inl (ld 0)), (0, .inr (.inr (some 82)))], [.inl z570], (I567, L, R, Y), 0, 0) _
                  refine yi_D_run 6 (236, [(5, .inl z570), (4, .inl z512), (3, .inl (nm (V (a + 1)) - 4)), (2, .inl 5), (1, .inl (ld 0)), (0, .inr (.inr (some 82)))], [.inl z570, .inl z512, .inl (nm (V (a + 1)) - 4), .inl 5], (I567, L, R, Y), 0, 0) (fun _ => rfl) ?_
                  refine yi_D_calls rfl (q_clause) ?_
                  rintro _ ⟨zc, rfl⟩
                  show yi_D zi_Ms d zi_m94 k (239, [(5, .inl z570), (4, .inl z512), (3, .inl (nm (V (a + 1)) - 4)), (2, .inl 5), (1, .inl (ld 0)), (0, .inr (.inr (some 82)))], [.inl zc], (I567, L, R, Y), 0, 0) _
                  refine yi_D_reti rfl ?_
                  exact ⟨_, _, rfl, hG582, Or.inr ⟨_, hx586, hz584, he569⟩⟩
                · have hW587 := mt_W_t hW518 (mt_G_F hGa573)
                  have hF588 := mt_F_t hF519 (mt_G_F hGa573)
                  have hG589 := mt_G_t hG520 hGa573
                  have hmc590 := mc_G hmc521 hGa573
                  have hz591 : 0 < sp_f P (a + 3) 4 := mt_f_ne hW518 hA523.2 (by omega)
                  have hn592 : 0 < I572 82 8 := by rw [he574]; exact hz591
                  have hx593 : sp_cl K P V ld nm a = .inr (sp_f P (a + 3) 4) := by
                    first
                    | (exfalso; omega)
                    | (unfold sp_cl; rw [if_pos (by omega)]; unfold sp_pair; (repeat (first | rw [if_pos (by omega)] | rw [if_neg (by omega)])); done)
                    | (unfold sp_cl; rw [if_neg (by omega)]; unfold sp_single; (repeat (first | rw [if_pos (by omega)] | rw [if_neg (by omega)])); done)
                  show yi_D zi_Ms d zi_m94 k (209, [(4, .inl z512), (3, .inl (nm (V (a + 1)) - 4)), (2, .inl 5), (1, .inl (ld 0)), (0, .inr (.inr (some 82)))], [.inl z575], (I572, L, R, Y), 0, 0) _
                  refine yi_D_run 6 (236, [(5, .inl z575), (4, .inl z512), (3, .inl (nm (V (a + 1)) - 4)), (2, .inl 5), (1, .inl (ld 0)), (0, .inr (.inr (some 82)))], [.inl z575, .inl z512, .inl (nm (V (a + 1)) - 4), .inl 5], (I572, L, R, Y), 0, 0) (fun _ => rfl) ?_
                  refine yi_D_calls rfl (q_clause) ?_
                  rintro _ ⟨zc, rfl⟩
                  show yi_D zi_Ms d zi_m94 k (239, [(5, .inl z575), (4, .inl z512), (3, .inl (nm (V (a + 1)) - 4)), (2, .inl 5), (1, .inl (ld 0)), (0, .inr (.inr (some 82)))], [.inl zc], (I572, L, R, Y), 0, 0) _
                  refine yi_D_reti rfl ?_
                  exact ⟨_, _, rfl, hG589, Or.inr ⟨_, hx593, hz591, he574⟩⟩
            · refine yi_D_if1 false rfl (yi_ge_f h514) ?_
              refine yi_D_run 2 (182, [(4, .inl z512), (3, .inl (nm (V (a + 1)) - 4)), (2, .inl 5), (1, .inl (ld 0)), (0, .inr (.inr (some 82)))], [.inl 1, .inr (.inr (some 82))], (I489, L, R, Y), 0, 0) (fun _ => rfl) ?_
              refine yi_D_callv rfl (q_wrong_z ⟨by omega, by omega⟩ hW508 hf491 hA492) ?_
              rintro _ ⟨I594, rfl, hg595, he596⟩
              have hGw597 : mt_G I489 I594 := fun p k hp => hg595 p k (by omega)
              have hW598 := mt_W_t hW508 (mt_G_F hGw597)
              have hF599 := mt_F_t hF509 (mt_G_F hGw597)
              have hG600 := mt_G_t hG510 hGw597
              have hmc601 := mc_G hmc511 hGw597
              have hz602 : 0 < sp_f P (a + 2) 1 := mt_f_ne hW508 hA492.2 (by omega)
              have hn603 : 0 < I594 82 8 := by rw [he596]; exact hz602
              have hx604 : sp_cl K P V ld nm a = .inr (sp_f P (a + 2) 1) := by
                first
                | (exfalso; omega)
                | (unfold sp_cl; rw [if_pos (by omega)]; unfold sp_pair; (repeat (first | rw [if_pos (by omega)] | rw [if_neg (by omega)])); done)
                | (unfold sp_cl; rw [if_neg (by omega)]; unfold sp_single; (repeat (first | rw [if_pos (by omega)] | rw [if_neg (by omega)])); done)
              show yi_D zi_Ms d zi_m94 k (185, [(4, .inl z512), (3, .inl (nm (V (a + 1)) - 4)), (2, .inl 5), (1, .inl (ld 0)), (0, .inr (.inr (some 82)))], [], (I594, L, R, Y), 0, 0) _
              refine yi_D_run 1 (186, [(4, .inl z512), (3, .inl (nm (V (a + 1)) - 4)), (2, .inl 5), (1, .inl (ld 0)), (0, .inr (.inr (some 82)))], [.inl 0], (I594, L, R, Y), 0, 0) (fun _ => rfl) ?_
              refine yi_D_reti rfl ?_
              exact ⟨_, _, rfl, hG600, Or.inr ⟨_, hx604, hz602, he596⟩⟩
          · have hW605 := mt_W_t hW480 (mt_G_F hGa495)
            have hF606 := mt_F_t hF481 (mt_G_F hGa495)
            have hG607 := mt_G_t hG482 hGa495
            have hmc608 := mc_G hmc483 hGa495
            have hz609 : 0 < sp_f P (a + 1) 1 := mt_f_ne hW480 hA485.2 (by omega)
            have hn610 : 0 < I494 82 8 := by rw [he496]; exact hz609
            have hx611 : sp_cl K P V ld nm a = .inr (sp_f P (a + 1) 1) := by
              first
              | (exfalso; omega)
              | (unfold sp_cl; rw [if_pos (by omega)]; unfold sp_pair; (repeat (first | rw [if_pos (by omega)] | rw [if_neg (by omega)])); done)
              | (unfold sp_cl; rw [if_neg (by omega)]; unfold sp_single; (repeat (first | rw [if_pos (by omega)] | rw [if_neg (by omega)])); done)
            show yi_D zi_Ms d zi_m94 k (153, [(2, .inl 5), (1, .inl (ld 0)), (0, .inr (.inr (some 82)))], [.inl z497], (I494, L, R, Y), 0, 0) _
            refine yi_D_run 2 (155, [(3, .inl z497), (2, .inl 5), (1, .inl (ld 0)), (0, .inr (.inr (some 82)))], [.inr (.inr (some 82))], (I494, L, R, Y), 0, 0) (fun _ => rfl) ?_
            refine yi_D_gi (v := I494 82 8) rfl rfl rfl rfl (fun _ => ?_)
            have h612 : ¬ ((I494 82 8) ≤ 0) := by omega
            refine yi_D_if1 false rfl (yi_le_f h612) ?_
            refine yi_D_run 4 (177, [(4, .inl (-1)), (3, .inl z497), (2, .inl 5), (1, .inl (ld 0)), (0, .inr (.inr (some 82)))], [.inl (-1)], (I494, L, R, Y), 0, 0) (fun _ => rfl) ?_
            refine yi_D_if1 false rfl (by decide) ?_
            refine yi_D_run 2 (182, [(4, .inl (-1)), (3, .inl z497), (2, .inl 5), (1, .inl (ld 0)), (0, .inr (.inr (some 82)))], [.inl 1, .inr (.inr (some 82))], (I494, L, R, Y), 0, 0) (fun _ => rfl) ?_
            refine yi_D_callv rfl (q_wrong_f hW605 hn610) ?_
            rintro _ rfl
            show yi_D zi_Ms d zi_m94 k (185, [(4, .inl (-1)), (3, .inl z497), (2, .inl 5), (1, .inl (ld 0)), (0, .inr (.inr (some 82)))], [], (I494, L, R, Y), 0, 0) _
            refine yi_D_run 1 (186, [(4, .inl (-1)), (3, .inl z497), (2, .inl 5), (1, .inl (ld 0)), (0, .inr (.inr (some 82)))], [.inl 0], (I494, L, R, Y), 0, 0) (fun _ => rfl) ?_
            refine yi_D_reti rfl ?_
            exact ⟨_, _, rfl, hG607, Or.inr ⟨_, hx611, hz609, he496⟩⟩
          · have hW613 := mt_W_t hW480 (mt_G_F hGa500)
            have hF614 := mt_F_t hF481 (mt_G_F hGa500)
            have hG615 := mt_G_t hG482 hGa500
            have hmc616 := mc_G hmc483 hGa500
            have hz617 : 0 < sp_f P (a + 1) 2 := mt_f_ne hW480 hA485.2 (by omega)
            have hn618 : 0 < I499 82 8 := by rw [he501]; exact hz617
            have hx619 : sp_cl K P V ld nm a = .inr (sp_f P (a + 1) 2) := by
              first
              | (exfalso; omega)
              | (unfold sp_cl; rw [if_pos (by omega)]; unfold sp_pair; (repeat (first | rw [if_pos (by omega)] | rw [if_neg (by omega)])); done)
              | (unfold sp_cl; rw [if_neg (by omega)]; unfold sp_single; (repeat (first | rw [if_pos (by omega)] | rw [if_neg (by omega)])); done)
            show yi_D zi_Ms d zi_m94 k (153, [(2, .inl 5), (1, .inl (ld 0)), (0, .inr (.inr (some 82)))], [.inl z502], (I499, L, R, Y), 0, 0) _
            refine yi_D_run 2 (155, [(3, .inl z502), (2, .inl 5), (1, .inl (ld 0)), (0, .inr (.inr (some 82)))], [.inr (.inr (some 82))], (I499, L, R, Y), 0, 0) (fun _ => rfl) ?_
            refine yi_D_gi (v := I499 82 8) rfl rfl rfl rfl (fun _ => ?_)
            have h620 : ¬ ((I499 82 8) ≤ 0) := by omega
            refine yi_D_if1 false rfl (yi_le_f h620) ?_
            refine yi_D_run 4 (177, [(4, .inl (-1)), (3, .inl z502), (2, .inl 5), (1, .inl (ld 0)), (0, .inr (.inr (some 82)))], [.inl (-1)], (I499, L, R, Y), 0, 0) (fun _ => rfl) ?_
            refine yi_D_if1 false rfl (by decide) ?_
            refine yi_D_run 2 (182, [(4, .inl (-1)), (3, .inl z502), (2, .inl 5), (1, .inl (ld 0)), (0, .inr (.inr (some 82)))], [.inl 1, .inr (.inr (some 82))], (I499, L, R, Y), 0, 0) (fun _ => rfl) ?_
            refine yi_D_callv rfl (q_wrong_f hW613 hn618) ?_
            rintro _ rfl
            show yi_D zi_Ms d zi_m94 k (185, [(4, .inl (-1)), (3, .inl z502), (2, .inl 5), (1, .inl (ld 0)), (0, .inr (.inr (some 82)))], [], (I499, L, R, Y), 0, 0) _
            refine yi_D_run 1 (186, [(4, .inl (-1)), (3, .inl z502), (2, .inl 5), (1, .inl (ld 0)), (0, .inr (.inr (some 82)))], [.inl 0], (I499, L, R, Y), 0, 0) (fun _ => rfl) ?_
            refine yi_D_reti rfl ?_
            exact ⟨_, _, rfl, hG615, Or.inr ⟨_, hx619, hz617, he501⟩⟩
          · have hW621 := mt_W_t hW480 (mt_G_F hGa505)
            have hF622 := mt_F_t hF481 (mt_G_F hGa505)
            have hG623 := mt_G_t hG482 hGa505
            have hmc624 := mc_G hmc483 hGa505
            have hz625 : 0 < sp_f P (a + 1) 3 := mt_f_ne hW480 hA485.2 (by omega)
            have hn626 : 0 < I504 82 8 := by rw [he506]; exact hz625
            have hx627 : sp_cl K P V ld nm a = .inr (sp_f P (a + 1) 3) := by
              first
              | (exfalso; omega)
              | (unfold sp_cl; rw [if_pos (by omega)]; unfold sp_pair; (repeat (first | rw [if_pos (by omega)] | rw [if_neg (by omega)])); done)
              | (unfold sp_cl; rw [if_neg (by omega)]; unfold sp_single; (repeat (first | rw [if_pos (by omega)] | rw [if_neg (by omega)])); done)
            show yi_D zi_Ms d zi_m94 k (153, [(2, .inl 5), (1, .inl (ld 0)), (0, .inr (.inr (some 82)))], [.inl z507], (I504, L, R, Y), 0, 0) _
            refine yi_D_run 2 (155, [(3, .inl z507), (2, .inl 5), (1, .inl (ld 0)), (0, .inr (.inr (some 82)))], [.inr (.inr (some 82))], (I504, L, R, Y), 0, 0) (fun _ => rfl) ?_
            refine yi_D_gi (v := I504 82 8) rfl rfl rfl rfl (fun _ => ?_)
            have h628 : ¬ ((I504 82 8) ≤ 0) := by omega
            refine yi_D_if1 false rfl (yi_le_f h628) ?_
            refine yi_D_run 4 (177, [(4, .inl (-1)), (3, .inl z507), (2, .inl 5), (1, .inl (ld 0)), (0, .inr (.inr (some 82)))], [.inl (-1)], (I504, L, R, Y), 0, 0) (fun _ => rfl) ?_
            refine yi_D_if1 false rfl (by decide) ?_
            refine yi_D_run 2 (182, [(4, .inl (-1)), (3, .inl z507), (2, .inl 5), (1, .inl (ld 0)), (0, .inr (.inr (some 82)))], [.inl 1, .inr (.inr (some 82))], (I504, L, R, Y), 0, 0) (fun _ => rfl) ?_
            refine yi_D_callv rfl (q_wrong_f hW621 hn626) ?_
            rintro _ rfl
            show yi_D zi_Ms d zi_m94 k (185, [(4, .inl (-1)), (3, .inl z507), (2, .inl 5), (1, .inl (ld 0)), (0, .inr (.inr (some 82)))], [], (I504, L, R, Y), 0, 0) _
            refine yi_D_run 1 (186, [(4, .inl (-1)), (3, .inl z507), (2, .inl 5), (1, .inl (ld 0)), (0, .inr (.inr (some 82)))], [.inl 0], (I504, L, R, Y), 0, 0) (fun _ => rfl) ?_
            refine yi_D_reti rfl ?_
            exact ⟨_, _, rfl, hG623, Or.inr ⟨_, hx627, hz625, he506⟩⟩
        · show yi_D zi_Ms d zi_m94 k (105, [(1, .inl (ld 0)), (0, .inr (.inr (some 82)))], [.inl 0], (I, L, R, Y), 0, 0) _
          refine yi_D_if1 true rfl (by decide) ?_
          refine yi_D_run 4 (116, [(2, .inl (-1)), (1, .inl (ld 0)), (0, .inr (.inr (some 82)))], [.inr (.inr (some 82)), .inr (.inr (some 82))], (I, L, R, Y), 0, 0) (fun _ => rfl) ?_
          refine yi_D_gi (v := (a : Int)) rfl rfl rfl hA.1 (fun _ => ?_)
          refine yi_D_run 1 (120, [(2, .inl (-1)), (1, .inl (ld 0)), (0, .inr (.inr (some 82)))], [.inl (-1), .inl (a : Int), .inr (.inr (some 82))], (I, L, R, Y), 0, 0) (fun _ => rfl) ?_
          refine yi_D_if1 false rfl (by decide) ?_
          refine yi_D_run 2 (128, [(2, .inl (-1)), (1, .inl (ld 0)), (0, .inr (.inr (some 82)))], [.inl 0, .inl (a : Int), .inr (.inr (some 82))], (I, L, R, Y), 0, 0) (fun _ => rfl) ?_
          refine yi_D_iadd rfl ((a : Int) + 0) (yi_wn (by omega) (by omega)) ?_
          refine yi_D_pi rfl (fun _ => ?_)
          generalize w630 : yi_u I 82 7 ((a : Int) + 0) = I629
          have hGn631 : mt_G I I629 := fun p k hp => by rw [← w630, yi_u_ne _ _ (by omega)]
          have hW632 := mt_W_t hW (mt_G_F hGn631)
          have hF633 := (mt_G_F hGn631)
          have hG634 := hGn631
          have hmc635 := mc_G hm hGn631
          have hf636 : I629 82 8 = 0 := by rw [← w630, yi_u_ne _ _ (by omega)]; exact hf
          have hA637 : mt_A I629 te a := ⟨by rw [← w630, yi_u_eq]; omega, hA.2⟩
          refine yi_D_run 1 (133, [(2, .inl (-1)), (1, .inl (ld 0)), (0, .inr (.inr (some 82)))], [.inl (-1)], (I629, L, R, Y), 0, 0) (fun _ => rfl) ?_
          refine yi_D_if1 false rfl (by decide) ?_
          refine yi_D_run 3 (139, [(2, .inl (-1)), (1, .inl (ld 0)), (0, .inr (.inr (some 82)))], [.inl (-1), .inl 0, .inr (.inr (some 82))], (I629, L, R, Y), 0, 0) (fun _ => rfl) ?_
          refine yi_D_callv rfl (q_takeTold0_z (bt := (-1)) hW632 hf636 hA637) ?_
          rintro _ (⟨c638, c639, c640, I641, rfl, hGa642, hf643, hA644⟩ | ⟨c645, z649, I646, rfl, hGa647, he648⟩ | ⟨c650, z654, I651, rfl, hGa652, he653⟩ | ⟨c655, z659, I656, rfl, hGa657, he658⟩)
          · have hA644 : mt_A I641 te (a + 1) := hA644
            have hW660 := mt_W_t hW632 (mt_G_F hGa642)
            have hF661 := mt_F_t hF633 (mt_G_F hGa642)
            have hG662 := mt_G_t hG634 hGa642
            have hmc663 := mc_G hmc635 hGa642
            show yi_D zi_Ms d zi_m94 k (142, [(2, .inl (-1)), (1, .inl (ld 0)), (0, .inr (.inr (some 82)))], [.inl (nm (V a) - 0)], (I641, L, R, Y), 0, 0) _
            refine yi_D_run 5 (150, [(2, .inl (nm (V a) - 0)), (1, .inl (ld 0)), (0, .inr (.inr (some 82)))], [.inl (-1), .inl 1, .inr (.inr (some 82))], (I641, L, R, Y), 0, 0) (fun _ => rfl) ?_
            refine yi_D_callv rfl (q_takeTold1_z (bt := (-1)) hW660 hf643 hA644) ?_
            rintro _ (⟨c664, c665, c666, I667, rfl, hGa668, hf669, hA670⟩ | ⟨c671, z675, I672, rfl, hGa673, he674⟩ | ⟨c676, z680, I677, rfl, hGa678, he679⟩ | ⟨c681, z685, I682, rfl, hGa683, he684⟩)
            · have hA670 : mt_A I667 te (a + 2) := hA670
              have hW686 := mt_W_t hW660 (mt_G_F hGa668)
              have hF687 := mt_F_t hF661 (mt_G_F hGa668)
              have hG688 := mt_G_t hG662 hGa668
              have hmc689 := mc_G hmc663 hGa668
              show yi_D zi_Ms d zi_m94 k (153, [(2, .inl (nm (V a) - 0)), (1, .inl (ld 0)), (0, .inr (.inr (some 82)))], [.inl (nm (V (a + 1)) - 4)], (I667, L, R, Y), 0, 0) _
              refine yi_D_run 2 (155, [(3, .inl (nm (V (a + 1)) - 4)), (2, .inl (nm (V a) - 0)), (1, .inl (ld 0)), (0, .inr (.inr (some 82)))], [.inr (.inr (some 82))], (I667, L, R, Y), 0, 0) (fun _ => rfl) ?_
              refine yi_D_gi (v := 0) rfl rfl rfl hf669 (fun _ => ?_)
              refine yi_D_if1 true rfl (by decide) ?_
              refine yi_D_run 3 (170, [(3, .inl (nm (V (a + 1)) - 4)), (2, .inl (nm (V a) - 0)), (1, .inl (ld 0)), (0, .inr (.inr (some 82)))], [.inl 7, .inl 14, .inr (.inr (some 82))], (I667, L, R, Y), 0, 0) (fun _ => rfl) ?_
              refine yi_D_callv rfl (q_wordHere_z (by omega) (by omega) (by omega) hW686 hf669 hA670) ?_
              rintro _ ⟨z690, rfl, hz691⟩
              show yi_D zi_Ms d zi_m94 k (173, [(3, .inl (nm (V (a + 1)) - 4)), (2, .inl (nm (V a) - 0)), (1, .inl (ld 0)), (0, .inr (.inr (some 82)))], [.inl z690], (I667, L, R, Y), 0, 0) _
              refine yi_D_run 2 (177, [(4, .inl z690), (3, .inl (nm (V (a + 1)) - 4)), (2, .inl (nm (V a) - 0)), (1, .inl (ld 0)), (0, .inr (.inr (some 82)))], [.inl z690], (I667, L, R, Y), 0, 0) (fun _ => rfl) ?_
              by_cases h692 : 0 ≤ z690
              · refine yi_D_if1 true rfl (yi_ge_t h692) ?_
                refine yi_D_run 2 (189, [(4, .inl z690), (3, .inl (nm (V (a + 1)) - 4)), (2, .inl (nm (V a) - 0)), (1, .inl (ld 0)), (0, .inr (.inr (some 82)))], [.inr (.inr (some 82)), .inr (.inr (some 82))], (I667, L, R, Y), 0, 0) (fun _ => rfl) ?_
                refine yi_D_gi (v := ((a + 2 : Nat) : Int)) rfl rfl rfl hA670.1 (fun _ => ?_)
                refine yi_D_run 1 (193, [(4, .inl z690), (3, .inl (nm (V (a + 1)) - 4)), (2, .inl (nm (V a) - 0)), (1, .inl (ld 0)), (0, .inr (.inr (some 82)))], [.inl 1, .inl ((a + 2 : Nat) : Int), .inr (.inr (some 82))], (I667, L, R, Y), 0, 0) (fun _ => rfl) ?_
                refine yi_D_iadd rfl (((a + 2 : Nat) : Int) + 1) (yi_wn (by omega) (by omega)) ?_
                refine yi_D_pi rfl (fun _ => ?_)
                generalize w694 : yi_u I667 82 7 (((a + 2 : Nat) : Int) + 1) = I693
                have hGn695 : mt_G I667 I693 := fun p k hp => by rw [← w694, yi_u_ne _ _ (by omega)]
                have hW696 := mt_W_t hW686 (mt_G_F hGn695)
                have hF697 := mt_F_t hF687 (mt_G_F hGn695)
                have hG698 := mt_G_t hG688 hGn695
                have hmc699 := mc_G hmc689 hGn695
                have hf700 : I693 82 8 = 0 := by rw [← w694, yi_u_ne _ _ (by omega)]; exact hf669
                have hA701 : mt_A I693 te (a + 3) := ⟨by rw [← w694, yi_u_eq]; omega, mt_lt hW696.2.1 hA670.2 (by omega)⟩
                refine yi_D_run 2 (200, [(4, .inl z690), (3, .inl (nm (V (a + 1)) - 4)), (2, .inl (nm (V a) - 0)), (1, .inl (ld 0)), (0, .inr (.inr (some 82)))], [.inl 2, .inl z690], (I693, L, R, Y), 0, 0) (fun _ => rfl) ?_
                by_cases h702 : 2 < z690
                · refine yi_D_if2 true rfl (yi_gt_t h702) ?_
                  refine yi_D_run 2 (215, [(4, .inl z690), (3, .inl (nm (V (a + 1)) - 4)), (2, .inl (nm (V a) - 0)), (1, .inl (ld 0)), (0, .inr (.inr (some 82)))], [.inl 5, .inl z690], (I693, L, R, Y), 0, 0) (fun _ => rfl) ?_
                  by_cases h703 : z690 < 5
                  · refine yi_D_if2 true rfl (yi_lt_t h703) ?_
                    refine yi_D_run 6 (236, [(5, .inl 0), (4, .inl z690), (3, .inl (nm (V (a + 1)) - 4)), (2, .inl (nm (V a) - 0)), (1, .inl (ld 0)), (0, .inr (.inr (some 82)))], [.inl 0, .inl z690, .inl (nm (V (a + 1)) - 4), .inl (nm (V a) - 0)], (I693, L, R, Y), 0, 0) (fun _ => rfl) ?_
                    refine yi_D_calls rfl (q_clauseE (x0 := nm (V a) - 0) (x1 := nm (V (a + 1)) - 4) (x2 := z690) (x3 := 0) ⟨⟨by omega, by omega⟩, ⟨by omega, by omega⟩, ⟨by omega, by omega⟩, ⟨by omega, by omega⟩⟩) ?_
                    rintro _ rfl
                    show yi_D zi_Ms d zi_m94 k (239, [(5, .inl 0), (4, .inl z690), (3, .inl (nm (V (a + 1)) - 4)), (2, .inl (nm (V a) - 0)), (1, .inl (ld 0)), (0, .inr (.inr (some 82)))], [.inl (sp_cc (nm (V a) - 0) (nm (V (a + 1)) - 4) z690 0)], (I693, L, R, Y), 0, 0) _
                    refine yi_D_reti rfl ?_
                    first
                    | (exfalso; omega)
                    | (refine ⟨sp_cc (nm (V (a + 1))) (nm (V (a + 3)) - 4) (if K a = 16 then 7 else 8) (nm (V (a + 2))), I693, by rw [show sp_cc (nm (V (a + 1))) (nm (V (a + 3)) - 4) (if K a = 16 then 7 else 8) (nm (V (a + 2))) = sp_cc (nm (V a) - 0) (nm (V (a + 1)) - 4) z690 0 from by (unfold sp_cc; (repeat (first | rw [if_pos (by omega)] | rw [if_neg (by omega)])); omega)], hG698, Or.inl ⟨_, ?_, hf700, hA701⟩⟩; unfold sp_cl; rw [if_pos (by omega)]; unfold sp_pair; (repeat (first | rw [if_pos (by omega)] | rw [if_neg (by omega)])); done)
                    | (refine ⟨sp_cc (if K a = 14 then 4 else if K a = 15 then 5 else nm (V a)) (nm (V (a + 1)) - 4) (K (a + 2) - 18) 0, I693, by rw [show sp_cc (if K a = 14 then 4 else if K a = 15 then 5 else nm (V a)) (nm (V (a + 1)) - 4) (K (a + 2) - 18) 0 = sp_cc (nm (V a) - 0) (nm (V (a + 1)) - 4) z690 0 from by (unfold sp_cc; (repeat (first | rw [if_pos (by omega)] | rw [if_neg (by omega)])); omega)], hG698, Or.inl ⟨_, ?_, hf700, hA701⟩⟩; unfold sp_cl; rw [if_neg (by omega)]; unfold sp_single; (repeat (first | rw [if_pos (by omega)] | rw [if_neg (by omega)])); done)
                  · refine yi_D_if2 false rfl (yi_lt_f h703) ?_
                    refine yi_D_run 3 (221, [(4, .inl z690), (3, .inl (nm (V (a + 1)) - 4)), (2, .inl (nm (V a) - 0)), (1, .inl (ld 0)), (0, .inr (.inr (some 82)))], [.inl (ld 0), .inl 0, .inr (.inr (some 82))], (I693, L, R, Y), 0, 0) (fun _ => rfl) ?_
                    have hlo : sp_lo (K (a + 2)) = 0 := if_neg (by omega)
                    refine yi_D_callv rfl (q_takeNumber_z (lo := 0) (hi := ld 0) hW696 hf700 hA701) ?_
                    rintro _ (⟨c704, c705, I706, rfl, hGa707, hf708, hA709⟩ | ⟨c710, z714, I711, rfl, hGa712, he713⟩ | ⟨c715, z719, I716, rfl, hGa717, he718⟩)
                    · have hA709 : mt_A I706 te (a + 4) := hA709
                      have hW720 := mt_W_t hW696 (mt_G_F hGa707)
                      have hF721 := mt_F_t hF697 (mt_G_F hGa707)
                      have hG722 := mt_G_t hG698 hGa707
                      have hmc723 := mc_G hmc699 hGa707
                      show yi_D zi_Ms d zi_m94 k (224, [(4, .inl z690), (3, .inl (nm (V (a + 1)) - 4)), (2, .inl (nm (V a) - 0)), (1, .inl (ld 0)), (0, .inr (.inr (some 82)))], [.inl (V (a + 3))], (I706, L, R, Y), 0, 0) _
                      refine yi_D_run 6 (236, [(5, .inl (V (a + 3))), (4, .inl z690), (3, .inl (nm (V (a + 1)) - 4)), (2, .inl (nm (V a) - 0)), (1, .inl (ld 0)), (0, .inr (.inr (some 82)))], [.inl (V (a + 3)), .inl z690, .inl (nm (V (a + 1)) - 4), .inl (nm (V a) - 0)], (I706, L, R, Y), 0, 0) (fun _ => rfl) ?_
                      refine yi_D_calls rfl (q_clauseE (x0 := nm (V a) - 0) (x1 := nm (V (a + 1)) - 4) (x2 := z690) (x3 := V (a + 3)) ⟨⟨by omega, by omega⟩, ⟨by omega, by omega⟩, ⟨by omega, by omega⟩, ⟨by omega, by omega⟩⟩) ?_
                      rintro _ rfl
                      show yi_D zi_Ms d zi_m94 k (239, [(5, .inl (V (a + 3))), (4, .inl z690), (3, .inl (nm (V (a + 1)) - 4)), (2, .inl (nm (V a) - 0)), (1, .inl (ld 0)), (0, .inr (.inr (some 82)))], [.inl (sp_cc (nm (V a) - 0) (nm (V (a + 1)) - 4) z690 (V (a + 3)))], (I706, L, R, Y), 0, 0) _
                      refine yi_D_reti rfl ?_
                      first
                      | (exfalso; omega)
                      | (refine ⟨sp_cc (nm (V (a + 1))) (nm (V (a + 3)) - 4) (if K a = 16 then 7 else 8) (nm (V (a + 2))), I706, by rw [show sp_cc (nm (V (a + 1))) (nm (V (a + 3)) - 4) (if K a = 16 then 7 else 8) (nm (V (a + 2))) = sp_cc (nm (V a) - 0) (nm (V (a + 1)) - 4) z690 (V (a + 3)) from by (unfold sp_cc; (repeat (first | rw [if_pos (by omega)] | rw [if_neg (by omega)])); omega)], hG722, Or.inl ⟨_, ?_, hf708, hA709⟩⟩; unfold sp_cl; rw [if_pos (by omega)]; unfold sp_pair; (repeat (first | rw [if_pos (by omega)] | rw [if_neg (by omega)])); done)
                      | (refine ⟨sp_cc (if K a = 14 then 4 else if K a = 15 then 5 else nm (V a)) (nm (V (a + 1)) - 4) (K (a + 2) - 18) (V (a + 3)), I706, by rw [show sp_cc (if K a = 14 then 4 else if K a = 15 then 5 else nm (V a)) (nm (V (a + 1)) - 4) (K (a + 2) - 18) (V (a + 3)) = sp_cc (nm (V a) - 0) (nm (V (a + 1)) - 4) z690 (V (a + 3)) from by (unfold sp_cc; (repeat (first | rw [if_pos (by omega)] | rw [if_neg (by omega)])); omega)], hG722, Or.inl ⟨_, ?_, hf708, hA709⟩⟩; unfold sp_cl; rw [if_neg (by omega)]; unfold sp_single; (repeat (first | rw [if_pos (by omega)] | rw [if_neg (by omega)])); done)
                    · have hW724 := mt_W_t hW696 (mt_G_F hGa712)
                      have hF725 := mt_F_t hF697 (mt_G_F hGa712)
                      have hG726 := mt_G_t hG698 hGa712
                      have hmc727 := mc_G hmc699 hGa712
                      have hz728 : 0 < sp_f P (a + 3) 1 := mt_f_ne hW696 hA701.2 (by omega)
                      have hn729 : 0 < I711 82 8 := by rw [he713]; exact hz728
                      have hx730 : sp_cl K P V ld nm a = .inr (sp_f P (a + 3) 1) := by
                        first
                        | (exfalso; omega)
                        | (unfold sp_cl; rw [if_pos (by omega)]; unfold sp_pair; (repeat (first | rw [if_pos (by omega)] | rw [if_neg (by omega)])); done)
                        | (unfold sp_cl; rw [if_neg (by omega)]; unfold sp_single; (repeat (first | rw [if_pos (by omega)] | rw [if_neg (by omega)])); done)
                      show yi_D zi_Ms d zi_m94 k (224, [(4, .inl z690), (3, .inl (nm (V (a + 1)) - 4)), (2, .inl (nm (V a) - 0)), (1, .inl (ld 0)), (0, .inr (.inr (some 82)))], [.inl z714], (I711, L, R, Y), 0, 0) _
                      refine yi_D_run 6 (236, [(5, .inl z714), (4, .inl z690), (3, .inl (nm (V (a + 1)) - 4)), (2, .inl (nm (V a) - 0)), (1, .inl (ld 0)), (0, .inr (.inr (some 82)))], [.inl z714, .inl z690, .inl (nm (V (a + 1)) - 4), .inl (nm (V a) - 0)], (I711, L, R, Y), 0, 0) (fun _ => rfl) ?_
                      refine yi_D_calls rfl (q_clause) ?_
                      rintro _ ⟨zc, rfl⟩
                      show yi_D zi_Ms d zi_m94 k (239, [(5, .inl z714), (4, .inl z690), (3, .inl (nm (V (a + 1)) - 4)), (2, .inl (nm (V a) - 0)), (1, .inl (ld 0)), (0, .inr (.inr (some 82)))], [.inl zc], (I711, L, R, Y), 0, 0) _
                      refine yi_D_reti rfl ?_
                      exact ⟨_, _, rfl, hG726, Or.inr ⟨_, hx730, hz728, he713⟩⟩
                    · have hW731 := mt_W_t hW696 (mt_G_F hGa717)
                      have hF732 := mt_F_t hF697 (mt_G_F hGa717)
                      have hG733 := mt_G_t hG698 hGa717
                      have hmc734 := mc_G hmc699 hGa717
                      have hz735 : 0 < sp_f P (a + 3) 4 := mt_f_ne hW696 hA701.2 (by omega)
                      have hn736 : 0 < I716 82 8 := by rw [he718]; exact hz735
                      have hx737 : sp_cl K P V ld nm a = .inr (sp_f P (a + 3) 4) := by
                        first
                        | (exfalso; omega)
                        | (unfold sp_cl; rw [if_pos (by omega)]; unfold sp_pair; (repeat (first | rw [if_pos (by omega)] | rw [if_neg (by omega)])); done)
                        | (unfold sp_cl; rw [if_neg (by omega)]; unfold sp_single; (repeat (first | rw [if_pos (by omega)] | rw [if_neg (by omega)])); done)
                      show yi_D zi_Ms d zi_m94 k (224, [(4, .inl z690), (3, .inl (nm (V (a + 1)) - 4)), (2, .inl (nm (V a) - 0)), (1, .inl (ld 0)), (0, .inr (.inr (some 82)))], [.inl z719], (I716, L, R, Y), 0, 0) _
                      refine yi_D_run 6 (236, [(5, .inl z719), (4, .inl z690), (3, .inl (nm (V (a + 1)) - 4)), (2, .inl (nm (V a) - 0)), (1, .inl (ld 0)), (0, .inr (.inr (some 82)))], [.inl z719, .inl z690, .inl (nm (V (a + 1)) - 4), .inl (nm (V a) - 0)], (I716, L, R, Y), 0, 0) (fun _ => rfl) ?_
                      refine yi_D_calls rfl (q_clause) ?_
                      rintro _ ⟨zc, rfl⟩
                      show yi_D zi_Ms d zi_m94 k (239, [(5, .inl z719), (4, .inl z690), (3, .inl (nm (V (a + 1)) - 4)), (2, .inl (nm (V a) - 0)), (1, .inl (ld 0)), (0, .inr (.inr (some 82)))], [.inl zc], (I716, L, R, Y), 0, 0) _
                      refine yi_D_reti rfl ?_
                      exact ⟨_, _, rfl, hG733, Or.inr ⟨_, hx737, hz735, he718⟩⟩
                · refine yi_D_if2 false rfl (yi_gt_f h702) ?_
                  refine yi_D_run 3 (206, [(4, .inl z690), (3, .inl (nm (V (a + 1)) - 4)), (2, .inl (nm (V a) - 0)), (1, .inl (ld 0)), (0, .inr (.inr (some 82)))], [.inl (ld 0), .inl 1, .inr (.inr (some 82))], (I693, L, R, Y), 0, 0) (fun _ => rfl) ?_
                  have hlo : sp_lo (K (a + 2)) = 1 := if_pos (by omega)
                  refine yi_D_callv rfl (q_takeNumber_z (lo := 1) (hi := ld 0) hW696 hf700 hA701) ?_
                  rintro _ (⟨c738, c739, I740, rfl, hGa741, hf742, hA743⟩ | ⟨c744, z748, I745, rfl, hGa746, he747⟩ | ⟨c749, z753, I750, rfl, hGa751, he752⟩)
                  · have hA743 : mt_A I740 te (a + 4) := hA743
                    have hW754 := mt_W_t hW696 (mt_G_F hGa741)
                    have hF755 := mt_F_t hF697 (mt_G_F hGa741)
                    have hG756 := mt_G_t hG698 hGa741
                    have hmc757 := mc_G hmc699 hGa741
                    show yi_D zi_Ms d zi_m94 k (209, [(4, .inl z690), (3, .inl (nm (V (a + 1)) - 4)), (2, .inl (nm (V a) - 0)), (1, .inl (ld 0)), (0, .inr (.inr (some 82)))], [.inl (V (a + 3))], (I740, L, R, Y), 0, 0) _
                    refine yi_D_run 6 (236, [(5, .inl (V (a + 3))), (4, .inl z690), (3, .inl (nm (V (a + 1)) - 4)), (2, .inl (nm (V a) - 0)), (1, .inl (ld 0)), (0, .inr (.inr (some 82)))], [.inl (V (a + 3)), .inl z690, .inl (nm (V (a + 1)) - 4), .inl (nm (V a) - 0)], (I740, L, R, Y), 0, 0) (fun _ => rfl) ?_
                    refine yi_D_calls rfl (q_clauseE (x0 := nm (V a) - 0) (x1 := nm (V (a + 1)) - 4) (x2 := z690) (x3 := V (a + 3)) ⟨⟨by omega, by omega⟩, ⟨by omega, by omega⟩, ⟨by omega, by omega⟩, ⟨by omega, by omega⟩⟩) ?_
                    rintro _ rfl
                    show yi_D zi_Ms d zi_m94 k (239, [(5, .inl (V (a + 3))), (4, .inl z690), (3, .inl (nm (V (a + 1)) - 4)), (2, .inl (nm (V a) - 0)), (1, .inl (ld 0)), (0, .inr (.inr (some 82)))], [.inl (sp_cc (nm (V a) - 0) (nm (V (a + 1)) - 4) z690 (V (a + 3)))], (I740, L, R, Y), 0, 0) _
                    refine yi_D_reti rfl ?_
                    first
                    | (exfalso; omega)
                    | (refine ⟨sp_cc (nm (V (a + 1))) (nm (V (a + 3)) - 4) (if K a = 16 then 7 else 8) (nm (V (a + 2))), I740, by rw [show sp_cc (nm (V (a + 1))) (nm (V (a + 3)) - 4) (if K a = 16 then 7 else 8) (nm (V (a + 2))) = sp_cc (nm (V a) - 0) (nm (V (a + 1)) - 4) z690 (V (a + 3)) from by (unfold sp_cc; (repeat (first | rw [if_pos (by omega)] | rw [if_neg (by omega)])); omega)], hG756, Or.inl ⟨_, ?_, hf742, hA743⟩⟩; unfold sp_cl; rw [if_pos (by omega)]; unfold sp_pair; (repeat (first | rw [if_pos (by omega)] | rw [if_neg (by omega)])); done)
                    | (refine ⟨sp_cc (if K a = 14 then 4 else if K a = 15 then 5 else nm (V a)) (nm (V (a + 1)) - 4) (K (a + 2) - 18) (V (a + 3)), I740, by rw [show sp_cc (if K a = 14 then 4 else if K a = 15 then 5 else nm (V a)) (nm (V (a + 1)) - 4) (K (a + 2) - 18) (V (a + 3)) = sp_cc (nm (V a) - 0) (nm (V (a + 1)) - 4) z690 (V (a + 3)) from by (unfold sp_cc; (repeat (first | rw [if_pos (by omega)] | rw [if_neg (by omega)])); omega)], hG756, Or.inl ⟨_, ?_, hf742, hA743⟩⟩; unfold sp_cl; rw [if_neg (by omega)]; unfold sp_single; (repeat (first | rw [if_pos (by omega)] | rw [if_neg (by omega)])); done)
                  · have hW758 := mt_W_t hW696 (mt_G_F hGa746)
                    have hF759 := mt_F_t hF697 (mt_G_F hGa746)
                    have hG760 := mt_G_t hG698 hGa746
                    have hmc761 := mc_G hmc699 hGa746
                    have hz762 : 0 < sp_f P (a + 3) 1 := mt_f_ne hW696 hA701.2 (by omega)
                    have hn763 : 0 < I745 82 8 := by rw [he747]; exact hz762
                    have hx764 : sp_cl K P V ld nm a = .inr (sp_f P (a + 3) 1) := by
                      first
                      | (exfalso; omega)
                      | (unfold sp_cl; rw [if_pos (by omega)]; unfold sp_pair; (repeat (first | rw [if_pos (by omega)] | rw [if_neg (by omega)])); done)
                      | (unfold sp_cl; rw [if_neg (by omega)]; unfold sp_single; (repeat (first | rw [if_pos (by omega)] | rw [if_neg (by omega)])); done)
                    show yi_D zi_Ms d zi_m94 k (209, [(4, .inl z690), (3, .inl (nm (V (a + 1)) - 4)), (2, .inl (nm (V a) - 0)), (1, .inl (ld 0)), (0, .inr (.inr (some 82)))], [.inl z748], (I745, L, R, Y), 0, 0) _
                    refine yi_D_run 6 (236, [(5, .inl z748), (4, .inl z690), (3, .inl (nm (V (a + 1)) - 4)), (2, .inl (nm (V a) - 0)), (1, .inl (ld 0)), (0, .inr (.inr (some 82)))], [.inl z748, .inl z690, .inl (nm (V (a + 1)) - 4), .inl (nm (V a) - 0)], (I745, L, R, Y), 0, 0) (fun _ => rfl) ?_
                    refine yi_D_calls rfl (q_clause) ?_
                    rintro _ ⟨zc, rfl⟩
                    show yi_D zi_Ms d zi_m94 k (239, [(5, .inl z748), (4, .inl z690), (3, .inl (nm (V (a + 1)) - 4)), (2, .inl (nm (V a) - 0)), (1, .inl (ld 0)), (0, .inr (.inr (some 82)))], [.inl zc], (I745, L, R, Y), 0, 0) _
                    refine yi_D_reti rfl ?_
                    exact ⟨_, _, rfl, hG760, Or.inr ⟨_, hx764, hz762, he747⟩⟩
                  · have hW765 := mt_W_t hW696 (mt_G_F hGa751)
                    have hF766 := mt_F_t hF697 (mt_G_F hGa751)
                    have hG767 := mt_G_t hG698 hGa751
                    have hmc768 := mc_G hmc699 hGa751
                    have hz769 : 0 < sp_f P (a + 3) 4 := mt_f_ne hW696 hA701.2 (by omega)
                    have hn770 : 0 < I750 82 8 := by rw [he752]; exact hz769
                    have hx771 : sp_cl K P V ld nm a = .inr (sp_f P (a + 3) 4) := by
                      first
                      | (exfalso; omega)
                      | (unfold sp_cl; rw [if_pos (by omega)]; unfold sp_pair; (repeat (first | rw [if_pos (by omega)] | rw [if_neg (by omega)])); done)
                      | (unfold sp_cl; rw [if_neg (by omega)]; unfold sp_single; (repeat (first | rw [if_pos (by omega)] | rw [if_neg (by omega)])); done)
                    show yi_D zi_Ms d zi_m94 k (209, [(4, .inl z690), (3, .inl (nm (V (a + 1)) - 4)), (2, .inl (nm (V a) - 0)), (1, .inl (ld 0)), (0, .inr (.inr (some 82)))], [.inl z753], (I750, L, R, Y), 0, 0) _
                    refine yi_D_run 6 (236, [(5, .inl z753), (4, .inl z690), (3, .inl (nm (V (a + 1)) - 4)), (2, .inl (nm (V a) - 0)), (1, .inl (ld 0)), (0, .inr (.inr (some 82)))], [.inl z753, .inl z690, .inl (nm (V (a + 1)) - 4), .inl (nm (V a) - 0)], (I750, L, R, Y), 0, 0) (fun _ => rfl) ?_
                    refine yi_D_calls rfl (q_clause) ?_
                    rintro _ ⟨zc, rfl⟩
                    show yi_D zi_Ms d zi_m94 k (239, [(5, .inl z753), (4, .inl z690), (3, .inl (nm (V (a + 1)) - 4)), (2, .inl (nm (V a) - 0)), (1, .inl (ld 0)), (0, .inr (.inr (some 82)))], [.inl zc], (I750, L, R, Y), 0, 0) _
                    refine yi_D_reti rfl ?_
                    exact ⟨_, _, rfl, hG767, Or.inr ⟨_, hx771, hz769, he752⟩⟩
              · refine yi_D_if1 false rfl (yi_ge_f h692) ?_
                refine yi_D_run 2 (182, [(4, .inl z690), (3, .inl (nm (V (a + 1)) - 4)), (2, .inl (nm (V a) - 0)), (1, .inl (ld 0)), (0, .inr (.inr (some 82)))], [.inl 1, .inr (.inr (some 82))], (I667, L, R, Y), 0, 0) (fun _ => rfl) ?_
                refine yi_D_callv rfl (q_wrong_z ⟨by omega, by omega⟩ hW686 hf669 hA670) ?_
                rintro _ ⟨I772, rfl, hg773, he774⟩
                have hGw775 : mt_G I667 I772 := fun p k hp => hg773 p k (by omega)
                have hW776 := mt_W_t hW686 (mt_G_F hGw775)
                have hF777 := mt_F_t hF687 (mt_G_F hGw775)
                have hG778 := mt_G_t hG688 hGw775
                have hmc779 := mc_G hmc689 hGw775
                have hz780 : 0 < sp_f P (a + 2) 1 := mt_f_ne hW686 hA670.2 (by omega)
                have hn781 : 0 < I772 82 8 := by rw [he774]; exact hz780
                have hx782 : sp_cl K P V ld nm a = .inr (sp_f P (a + 2) 1) := by
                  first
                  | (exfalso; omega)
                  | (unfold sp_cl; rw [if_pos (by omega)]; unfold sp_pair; (repeat (first | rw [if_pos (by omega)] | rw [if_neg (by omega)])); done)
                  | (unfold sp_cl; rw [if_neg (by omega)]; unfold sp_single; (repeat (first | rw [if_pos (by omega)] | rw [if_neg (by omega)])); done)
                show yi_D zi_Ms d zi_m94 k (185, [(4, .inl z690), (3, .inl (nm (V (a + 1)) - 4)), (2, .inl (nm (V a) - 0)), (1, .inl (ld 0)), (0, .inr (.inr (some 82)))], [], (I772, L, R, Y), 0, 0) _
                refine yi_D_run 1 (186, [(4, .inl z690), (3, .inl (nm (V (a + 1)) - 4)), (2, .inl (nm (V a) - 0)), (1, .inl (ld 0)), (0, .inr (.inr (some 82)))], [.inl 0], (I772, L, R, Y), 0, 0) (fun _ => rfl) ?_
                refine yi_D_reti rfl ?_
                exact ⟨_, _, rfl, hG778, Or.inr ⟨_, hx782, hz780, he774⟩⟩
            · have hW783 := mt_W_t hW660 (mt_G_F hGa673)
              have hF784 := mt_F_t hF661 (mt_G_F hGa673)
              have hG785 := mt_G_t hG662 hGa673
              have hmc786 := mc_G hmc663 hGa673
              have hz787 : 0 < sp_f P (a + 1) 1 := mt_f_ne hW660 hA644.2 (by omega)
              have hn788 : 0 < I672 82 8 := by rw [he674]; exact hz787
              have hx789 : sp_cl K P V ld nm a = .inr (sp_f P (a + 1) 1) := by
                first
                | (exfalso; omega)
                | (unfold sp_cl; rw [if_pos (by omega)]; unfold sp_pair; (repeat (first | rw [if_pos (by omega)] | rw [if_neg (by omega)])); done)
                | (unfold sp_cl; rw [if_neg (by omega)]; unfold sp_single; (repeat (first | rw [if_pos (by omega)] | rw [if_neg (by omega)])); done)
              show yi_D zi_Ms d zi_m94 k (153, [(2, .inl (nm (V a) - 0)), (1, .inl (ld 0)), (0, .inr (.inr (some 82)))], [.inl z675], (I672, L, R, Y), 0, 0) _
              refine yi_D_run 2 (155, [(3, .inl z675), (2, .inl (nm (V a) - 0)), (1, .inl (ld 0)), (0, .inr (.inr (some 82)))], [.inr (.inr (some 82))], (I672, L, R, Y), 0, 0) (fun _ => rfl) ?_
              refine yi_D_gi (v := I672 82 8) rfl rfl rfl rfl (fun _ => ?_)
              have h790 : ¬ ((I672 82 8) ≤ 0) := by omega
              refine yi_D_if1 false rfl (yi_le_f h790) ?_
              refine yi_D_run 4 (177, [(4, .inl (-1)), (3, .inl z675), (2, .inl (nm (V a) - 0)), (1, .inl (ld 0)), (0, .inr (.inr (some 82)))], [.inl (-1)], (I672, L, R, Y), 0, 0) (fun _ => rfl) ?_
              refine yi_D_if1 false rfl (by decide) ?_
              refine yi_D_run 2 (182, [(4, .inl (-1)), (3, .inl z675), (2, .inl (nm (V a) - 0)), (1, .inl (ld 0)), (0, .inr (.inr (some 82)))], [.inl 1, .inr (.inr (some 82))], (I672, L, R, Y), 0, 0) (fun _ => rfl) ?_
              refine yi_D_callv rfl (q_wrong_f hW783 hn788) ?_
              rintro _ rfl
              show yi_D zi_Ms d zi_m94 k (185, [(4, .inl (-1)), (3, .inl z675), (2, .inl (nm (V a) - 0)), (1, .inl (ld 0)), (0, .inr (.inr (some 82)))], [], (I672, L, R, Y), 0, 0) _
              refine yi_D_run 1 (186, [(4, .inl (-1)), (3, .inl z675), (2, .inl (nm (V a) - 0)), (1, .inl (ld 0)), (0, .inr (.inr (some 82)))], [.inl 0], (I672, L, R, Y), 0, 0) (fun _ => rfl) ?_
              refine yi_D_reti rfl ?_
              exact ⟨_, _, rfl, hG785, Or.inr ⟨_, hx789, hz787, he674⟩⟩
            · have hW791 := mt_W_t hW660 (mt_G_F hGa678)
              have hF792 := mt_F_t hF661 (mt_G_F hGa678)
              have hG793 := mt_G_t hG662 hGa678
              have hmc794 := mc_G hmc663 hGa678
              have hz795 : 0 < sp_f P (a + 1) 2 := mt_f_ne hW660 hA644.2 (by omega)
              have hn796 : 0 < I677 82 8 := by rw [he679]; exact hz795
              have hx797 : sp_cl K P V ld nm a = .inr (sp_f P (a + 1) 2) := by
                first
                | (exfalso; omega)
                | (unfold sp_cl; rw [if_pos (by omega)]; unfold sp_pair; (repeat (first | rw [if_pos (by omega)] | rw [if_neg (by omega)])); done)
                | (unfold sp_cl; rw [if_neg (by omega)]; unfold sp_single; (repeat (first | rw [if_pos (by omega)] | rw [if_neg (by omega)])); done)
              show yi_D zi_Ms d zi_m94 k (153, [(2, .inl (nm (V a) - 0)), (1, .inl (ld 0)), (0, .inr (.inr (some 82)))], [.inl z680], (I677, L, R, Y), 0, 0) _
              refine yi_D_run 2 (155, [(3, .inl z680), (2, .inl (nm (V a) - 0)), (1, .inl (ld 0)), (0, .inr (.inr (some 82)))], [.inr (.inr (some 82))], (I677, L, R, Y), 0, 0) (fun _ => rfl) ?_
              refine yi_D_gi (v := I677 82 8) rfl rfl rfl rfl (fun _ => ?_)
              have h798 : ¬ ((I677 82 8) ≤ 0) := by omega
              refine yi_D_if1 false rfl (yi_le_f h798) ?_
              refine yi_D_run 4 (177, [(4, .inl (-1)), (3, .inl z680), (2, .inl (nm (V a) - 0)), (1, .inl (ld 0)), (0, .inr (.inr (some 82)))], [.inl (-1)], (I677, L, R, Y), 0, 0) (fun _ => rfl) ?_
              refine yi_D_if1 false rfl (by decide) ?_
              refine yi_D_run 2 (182, [(4, .inl (-1)), (3, .inl z680), (2, .inl (nm (V a) - 0)), (1, .inl (ld 0)), (0, .inr (.inr (some 82)))], [.inl 1, .inr (.inr (some 82))], (I677, L, R, Y), 0, 0) (fun _ => rfl) ?_
              refine yi_D_callv rfl (q_wrong_f hW791 hn796) ?_
              rintro _ rfl
              show yi_D zi_Ms d zi_m94 k (185, [(4, .inl (-1)), (3, .inl z680), (2, .inl (nm (V a) - 0)), (1, .inl (ld 0)), (0, .inr (.inr (some 82)))], [], (I677, L, R, Y), 0, 0) _
              refine yi_D_run 1 (186, [(4, .inl (-1)), (3, .inl z680), (2, .inl (nm (V a) - 0)), (1, .inl (ld 0)), (0, .inr (.inr (some 82)))], [.inl 0], (I677, L, R, Y), 0, 0) (fun _ => rfl) ?_
              refine yi_D_reti rfl ?_
              exact ⟨_, _, rfl, hG793, Or.inr ⟨_, hx797, hz795, he679⟩⟩
            · have hW799 := mt_W_t hW660 (mt_G_F hGa683)
              have hF800 := mt_F_t hF661 (mt_G_F hGa683)
              have hG801 := mt_G_t hG662 hGa683
              have hmc802 := mc_G hmc663 hGa683
              have hz803 : 0 < sp_f P (a + 1) 3 := mt_f_ne hW660 hA644.2 (by omega)
              have hn804 : 0 < I682 82 8 := by rw [he684]; exact hz803
              have hx805 : sp_cl K P V ld nm a = .inr (sp_f P (a + 1) 3) := by
                first
                | (exfalso; omega)
                | (unfold sp_cl; rw [if_pos (by omega)]; unfold sp_pair; (repeat (first | rw [if_pos (by omega)] | rw [if_neg (by omega)])); done)
                | (unfold sp_cl; rw [if_neg (by omega)]; unfold sp_single; (repeat (first | rw [if_pos (by omega)] | rw [if_neg (by omega)])); done)
              show yi_D zi_Ms d zi_m94 k (153, [(2, .inl (nm (V a) - 0)), (1, .inl (ld 0)), (0, .inr (.inr (some 82)))], [.inl z685], (I682, L, R, Y), 0, 0) _
              refine yi_D_run 2 (155, [(3, .inl z685), (2, .inl (nm (V a) - 0)), (1, .inl (ld 0)), (0, .inr (.inr (some 82)))], [.inr (.inr (some 82))], (I682, L, R, Y), 0, 0) (fun _ => rfl) ?_
              refine yi_D_gi (v := I682 82 8) rfl rfl rfl rfl (fun _ => ?_)
              have h806 : ¬ ((I682 82 8) ≤ 0) := by omega
              refine yi_D_if1 false rfl (yi_le_f h806) ?_
              refine yi_D_run 4 (177, [(4, .inl (-1)), (3, .inl z685), (2, .inl (nm (V a) - 0)), (1, .inl (ld 0)), (0, .inr (.inr (some 82)))], [.inl (-1)], (I682, L, R, Y), 0, 0) (fun _ => rfl) ?_
              refine yi_D_if1 false rfl (by decide) ?_
              refine yi_D_run 2 (182, [(4, .inl (-1)), (3, .inl z685), (2, .inl (nm (V a) - 0)), (1, .inl (ld 0)), (0, .inr (.inr (some 82)))], [.inl 1, .inr (.inr (some 82))], (I682, L, R, Y), 0, 0) (fun _ => rfl) ?_
              refine yi_D_callv rfl (q_wrong_f hW799 hn804) ?_
              rintro _ rfl
              show yi_D zi_Ms d zi_m94 k (185, [(4, .inl (-1)), (3, .inl z685), (2, .inl (nm (V a) - 0)), (1, .inl (ld 0)), (0, .inr (.inr (some 82)))], [], (I682, L, R, Y), 0, 0) _
              refine yi_D_run 1 (186, [(4, .inl (-1)), (3, .inl z685), (2, .inl (nm (V a) - 0)), (1, .inl (ld 0)), (0, .inr (.inr (some 82)))], [.inl 0], (I682, L, R, Y), 0, 0) (fun _ => rfl) ?_
              refine yi_D_reti rfl ?_
              exact ⟨_, _, rfl, hG801, Or.inr ⟨_, hx805, hz803, he684⟩⟩
          · have hW807 := mt_W_t hW632 (mt_G_F hGa647)
            have hF808 := mt_F_t hF633 (mt_G_F hGa647)
            have hG809 := mt_G_t hG634 hGa647
            have hmc810 := mc_G hmc635 hGa647
            have hz811 : 0 < sp_f P a 1 := mt_f_ne hW632 hA637.2 (by omega)
            have hn812 : 0 < I646 82 8 := by rw [he648]; exact hz811
            have hx813 : sp_cl K P V ld nm a = .inr (sp_f P a 1) := by
              first
              | (exfalso; omega)
              | (unfold sp_cl; rw [if_pos (by omega)]; unfold sp_pair; (repeat (first | rw [if_pos (by omega)] | rw [if_neg (by omega)])); done)
              | (unfold sp_cl; rw [if_neg (by omega)]; unfold sp_single; (repeat (first | rw [if_pos (by omega)] | rw [if_neg (by omega)])); done)
            show yi_D zi_Ms d zi_m94 k (142, [(2, .inl (-1)), (1, .inl (ld 0)), (0, .inr (.inr (some 82)))], [.inl z649], (I646, L, R, Y), 0, 0) _
            refine yi_D_run 5 (150, [(2, .inl z649), (1, .inl (ld 0)), (0, .inr (.inr (some 82)))], [.inl (-1), .inl 1, .inr (.inr (some 82))], (I646, L, R, Y), 0, 0) (fun _ => rfl) ?_
            refine yi_D_callv rfl (q_takeTold1_f hW807 hn812) ?_
            rintro _ ⟨z814, rfl⟩
            show yi_D zi_Ms d zi_m94 k (153, [(2, .inl z649), (1, .inl (ld 0)), (0, .inr (.inr (some 82)))], [.inl z814], (I646, L, R, Y), 0, 0) _
            refine yi_D_run 2 (155, [(3, .inl z814), (2, .inl z649), (1, .inl (ld 0)), (0, .inr (.inr (some 82)))], [.inr (.inr (some 82))], (I646, L, R, Y), 0, 0) (fun _ => rfl) ?_
            refine yi_D_gi (v := I646 82 8) rfl rfl rfl rfl (fun _ => ?_)
            have h815 : ¬ ((I646 82 8) ≤ 0) := by omega
            refine yi_D_if1 false rfl (yi_le_f h815) ?_
            refine yi_D_run 4 (177, [(4, .inl (-1)), (3, .inl z814), (2, .inl z649), (1, .inl (ld 0)), (0, .inr (.inr (some 82)))], [.inl (-1)], (I646, L, R, Y), 0, 0) (fun _ => rfl) ?_
            refine yi_D_if1 false rfl (by decide) ?_
            refine yi_D_run 2 (182, [(4, .inl (-1)), (3, .inl z814), (2, .inl z649), (1, .inl (ld 0)), (0, .inr (.inr (some 82)))], [.inl 1, .inr (.inr (some 82))], (I646, L, R, Y), 0, 0) (fun _ => rfl) ?_
            refine yi_D_callv rfl (q_wrong_f hW807 hn812) ?_
            rintro _ rfl
            show yi_D zi_Ms d zi_m94 k (185, [(4, .inl (-1)), (3, .inl z814), (2, .inl z649), (1, .inl (ld 0)), (0, .inr (.inr (some 82)))], [], (I646, L, R, Y), 0, 0) _
            refine yi_D_run 1 (186, [(4, .inl (-1)), (3, .inl z814), (2, .inl z649), (1, .inl (ld 0)), (0, .inr (.inr (some 82)))], [.inl 0], (I646, L, R, Y), 0, 0) (fun _ => rfl) ?_
            refine yi_D_reti rfl ?_
            exact ⟨_, _, rfl, hG809, Or.inr ⟨_, hx813, hz811, he648⟩⟩
          · have hW816 := mt_W_t hW632 (mt_G_F hGa652)
            have hF817 := mt_F_t hF633 (mt_G_F hGa652)
            have hG818 := mt_G_t hG634 hGa652
            have hmc819 := mc_G hmc635 hGa652
            have hz820 : 0 < sp_f P a 2 := mt_f_ne hW632 hA637.2 (by omega)
            have hn821 : 0 < I651 82 8 := by rw [he653]; exact hz820
            have hx822 : sp_cl K P V ld nm a = .inr (sp_f P a 2) := by
              first
              | (exfalso; omega)
              | (unfold sp_cl; rw [if_pos (by omega)]; unfold sp_pair; (repeat (first | rw [if_pos (by omega)] | rw [if_neg (by omega)])); done)
              | (unfold sp_cl; rw [if_neg (by omega)]; unfold sp_single; (repeat (first | rw [if_pos (by omega)] | rw [if_neg (by omega)])); done)
            show yi_D zi_Ms d zi_m94 k (142, [(2, .inl (-1)), (1, .inl (ld 0)), (0, .inr (.inr (some 82)))], [.inl z654], (I651, L, R, Y), 0, 0) _
            refine yi_D_run 5 (150, [(2, .inl z654), (1, .inl (ld 0)), (0, .inr (.inr (some 82)))], [.inl (-1), .inl 1, .inr (.inr (some 82))], (I651, L, R, Y), 0, 0) (fun _ => rfl) ?_
            refine yi_D_callv rfl (q_takeTold1_f hW816 hn821) ?_
            rintro _ ⟨z823, rfl⟩
            show yi_D zi_Ms d zi_m94 k (153, [(2, .inl z654), (1, .inl (ld 0)), (0, .inr (.inr (some 82)))], [.inl z823], (I651, L, R, Y), 0, 0) _
            refine yi_D_run 2 (155, [(3, .inl z823), (2, .inl z654), (1, .inl (ld 0)), (0, .inr (.inr (some 82)))], [.inr (.inr (some 82))], (I651, L, R, Y), 0, 0) (fun _ => rfl) ?_
            refine yi_D_gi (v := I651 82 8) rfl rfl rfl rfl (fun _ => ?_)
            have h824 : ¬ ((I651 82 8) ≤ 0) := by omega
            refine yi_D_if1 false rfl (yi_le_f h824) ?_
            refine yi_D_run 4 (177, [(4, .inl (-1)), (3, .inl z823), (2, .inl z654), (1, .inl (ld 0)), (0, .inr (.inr (some 82)))], [.inl (-1)], (I651, L, R, Y), 0, 0) (fun _ => rfl) ?_
            refine yi_D_if1 false rfl (by decide) ?_
            refine yi_D_run 2 (182, [(4, .inl (-1)), (3, .inl z823), (2, .inl z654), (1, .inl (ld 0)), (0, .inr (.inr (some 82)))], [.inl 1, .inr (.inr (some 82))], (I651, L, R, Y), 0, 0) (fun _ => rfl) ?_
            refine yi_D_callv rfl (q_wrong_f hW816 hn821) ?_
            rintro _ rfl
            show yi_D zi_Ms d zi_m94 k (185, [(4, .inl (-1)), (3, .inl z823), (2, .inl z654), (1, .inl (ld 0)), (0, .inr (.inr (some 82)))], [], (I651, L, R, Y), 0, 0) _
            refine yi_D_run 1 (186, [(4, .inl (-1)), (3, .inl z823), (2, .inl z654), (1, .inl (ld 0)), (0, .inr (.inr (some 82)))], [.inl 0], (I651, L, R, Y), 0, 0) (fun _ => rfl) ?_
            refine yi_D_reti rfl ?_
            exact ⟨_, _, rfl, hG818, Or.inr ⟨_, hx822, hz820, he653⟩⟩
          · have hW825 := mt_W_t hW632 (mt_G_F hGa657)
            have hF826 := mt_F_t hF633 (mt_G_F hGa657)
            have hG827 := mt_G_t hG634 hGa657
            have hmc828 := mc_G hmc635 hGa657
            have hz829 : 0 < sp_f P a 3 := mt_f_ne hW632 hA637.2 (by omega)
            have hn830 : 0 < I656 82 8 := by rw [he658]; exact hz829
            have hx831 : sp_cl K P V ld nm a = .inr (sp_f P a 3) := by
              first
              | (exfalso; omega)
              | (unfold sp_cl; rw [if_pos (by omega)]; unfold sp_pair; (repeat (first | rw [if_pos (by omega)] | rw [if_neg (by omega)])); done)
              | (unfold sp_cl; rw [if_neg (by omega)]; unfold sp_single; (repeat (first | rw [if_pos (by omega)] | rw [if_neg (by omega)])); done)
            show yi_D zi_Ms d zi_m94 k (142, [(2, .inl (-1)), (1, .inl (ld 0)), (0, .inr (.inr (some 82)))], [.inl z659], (I656, L, R, Y), 0, 0) _
            refine yi_D_run 5 (150, [(2, .inl z659), (1, .inl (ld 0)), (0, .inr (.inr (some 82)))], [.inl (-1), .inl 1, .inr (.inr (some 82))], (I656, L, R, Y), 0, 0) (fun _ => rfl) ?_
            refine yi_D_callv rfl (q_takeTold1_f hW825 hn830) ?_
            rintro _ ⟨z832, rfl⟩
            show yi_D zi_Ms d zi_m94 k (153, [(2, .inl z659), (1, .inl (ld 0)), (0, .inr (.inr (some 82)))], [.inl z832], (I656, L, R, Y), 0, 0) _
            refine yi_D_run 2 (155, [(3, .inl z832), (2, .inl z659), (1, .inl (ld 0)), (0, .inr (.inr (some 82)))], [.inr (.inr (some 82))], (I656, L, R, Y), 0, 0) (fun _ => rfl) ?_
            refine yi_D_gi (v := I656 82 8) rfl rfl rfl rfl (fun _ => ?_)
            have h833 : ¬ ((I656 82 8) ≤ 0) := by omega
            refine yi_D_if1 false rfl (yi_le_f h833) ?_
            refine yi_D_run 4 (177, [(4, .inl (-1)), (3, .inl z832), (2, .inl z659), (1, .inl (ld 0)), (0, .inr (.inr (some 82)))], [.inl (-1)], (I656, L, R, Y), 0, 0) (fun _ => rfl) ?_
            refine yi_D_if1 false rfl (by decide) ?_
            refine yi_D_run 2 (182, [(4, .inl (-1)), (3, .inl z832), (2, .inl z659), (1, .inl (ld 0)), (0, .inr (.inr (some 82)))], [.inl 1, .inr (.inr (some 82))], (I656, L, R, Y), 0, 0) (fun _ => rfl) ?_
            refine yi_D_callv rfl (q_wrong_f hW825 hn830) ?_
            rintro _ rfl
            show yi_D zi_Ms d zi_m94 k (185, [(4, .inl (-1)), (3, .inl z832), (2, .inl z659), (1, .inl (ld 0)), (0, .inr (.inr (some 82)))], [], (I656, L, R, Y), 0, 0) _
            refine yi_D_run 1 (186, [(4, .inl (-1)), (3, .inl z832), (2, .inl z659), (1, .inl (ld 0)), (0, .inr (.inr (some 82)))], [.inl 0], (I656, L, R, Y), 0, 0) (fun _ => rfl) ?_
            refine yi_D_reti rfl ?_
            exact ⟨_, _, rfl, hG827, Or.inr ⟨_, hx831, hz829, he658⟩⟩
/-- what reading with a pile gives, codes and all -/
def mt_QRC (gg : Nat → Int × Int) (I L : Nat → Nat → Int) (R : Nat → Nat → Option Nat) (Y : (Nat → Nat) × (Nat → Nat) × Nat) (K P V : Nat → Int) (te : Nat) (c : sp_C) (e a dp : Nat) (sk : List Nat) (ld : Nat → Int) (nm : Int → Int) (p : Int × Int → Prop) (D : Nat) (cs : List (Int × Int)) (r : yi_R) : Prop := ∃ I', r = (none, (I', L, R, Y), 0, 0) ∧ mt_F I I' ∧ ((∃ a' cs', sp_R K P V c (.inl (e, a', dp, sk, ld, nm, cs')) ∧ a < a' ∧ I' 82 8 = 0 ∧ mt_A I' te a' ∧ mc_S gg I' cs' ∧ wfX p D cs cs') ∨ (∃ f, sp_R K P V c (.inr f) ∧ 0 < f ∧ I' 82 8 = f))
def mt_RIC (d : Nat) : Prop := ∀ {I L : Nat → Nat → Int} {R : Nat → Nat → Option Nat} {Y : (Nat → Nat) × (Nat → Nat) × Nat} {K P V : Nat → Int} {te b a : Nat} {ld : Nat → Int} {nm : Int → Int} {gg : Nat → Int × Int} (dp : Nat) (sk : List Nat) (cs : List (Int × Int)), mt_W I L R Y K P V te b ld nm → I 82 8 = 0 → mt_A I te a → dp ≤ 5 → mc_S gg I cs → yi_P zi_Ms d 97 [.inr (.inr (some 82)), .inl (dp : Int)] (I, L, R, Y) (mt_QRC gg I L R Y K P V te (3, a, dp, sk, ld, nm, cs) 4 a dp sk ld nm pF (11 - 2 * dp) cs)
def mt_RFC (d : Nat) : Prop := ∀ {I L : Nat → Nat → Int} {R : Nat → Nat → Option Nat} {Y : (Nat → Nat) × (Nat → Nat) × Nat} {K P V : Nat → Int} {te b a : Nat} {ld : Nat → Int} {nm : Int → Int} {gg : Nat → Int × Int} (dp : Nat) (sk : List Nat) (cs : List (Int × Int)), mt_W I L R Y K P V te b ld nm → I 82 8 = 0 → mt_A I te a → dp ≤ 5 → mc_S gg I cs → yi_P zi_Ms d 96 [.inr (.inr (some 82)), .inl (dp : Int)] (I, L, R, Y) (mt_QRC gg I L R Y K P V te (3, a, dp, (10 :: sk), ld, nm, cs) 7 a dp sk ld nm pF (13 - 2 * dp) cs)
/-- a term: the code of an or comes behind it -/
def mt_QTC (gg : Nat → Int × Int) (I L : Nat → Nat → Int) (R : Nat → Nat → Option Nat) (Y : (Nat → Nat) × (Nat → Nat) × Nat) (K P V : Nat → Int) (te : Nat) (c : sp_C) (a dp : Nat) (sk : List Nat) (ld : Nat → Int) (nm : Int → Int) (ef : Nat) (cs : List (Int × Int)) (r : yi_R) : Prop := ∃ I', r = (none, (I', L, R, Y), 0, 0) ∧ mt_F I I' ∧ ((∃ a' cs', sp_R K P V c (.inl (6, a', dp, sk, ld, nm, if ef = 11 then cs' ++ [(10, 0)] else cs')) ∧ a < a' ∧ I' 82 8 = 0 ∧ mt_A I' te a' ∧ mc_S gg I' cs' ∧ wfX pF (12 - 2 * dp) cs cs') ∨ (∃ f, sp_R K P V c (.inr f) ∧ 0 < f ∧ I' 82 8 = f))
def mt_RTC (d : Nat) : Prop := ∀ {I L : Nat → Nat → Int} {R : Nat → Nat → Option Nat} {Y : (Nat → Nat) × (Nat → Nat) × Nat} {K P V : Nat → Int} {te b a : Nat} {ld : Nat → Int} {nm : Int → Int} {gg : Nat → Int × Int} (dp : Nat) (sk : List Nat) (cs : List (Int × Int)), mt_W I L R Y K P V te b ld nm → I 82 8 = 0 → mt_A I te a → dp ≤ 5 → ∀ ef : Nat, ef = 10 ∨ ef = 11 → mc_S gg I cs → yi_P zi_Ms d 104 [.inr (.inr (some 82)), .inl (dp : Int)] (I, L, R, Y) (mt_QTC gg I L R Y K P V te (3, a, dp, (ef :: sk), ld, nm, cs) a dp sk ld nm ef cs)
theorem q_readItemC_s {d : Nat} {I L : Nat → Nat → Int} {R : Nat → Nat → Option Nat} {Y : (Nat → Nat) × (Nat → Nat) × Nat} (hRI : mt_RIC d) (hRF : mt_RFC d) {K P V : Nat → Int} {te b a : Nat} {ld : Nat → Int} {nm : Int → Int} (hW : mt_W I L R Y K P V te b ld nm) (hf : I 82 8 = 0) (hA : mt_A I te a) (dp : Nat) (sk : List Nat) (cs : List (Int × Int)) (hd : dp ≤ 5) {gg : Nat → Int × Int} (hm : mc_S gg I cs) : yi_P zi_Ms (d + 1) 97 [.inr (.inr (some 82)), .inl (dp : Int)] (I, L, R, Y) (mt_QRC gg I L R Y K P V te (3, a, dp, sk, ld, nm, cs) 4 a dp sk ld nm pF (11 - 2 * dp) cs) := by
  refine yi_P_s (M := zi_m97) rfl (fun k => ?_)
  have hS := hW.1
  have ht := hW.2.1.1
  have ha := hA.2
  have hp := hW.2.1.2.1 a hA.2
  show yi_D zi_Ms d zi_m97 k (0, [(0, .inr (.inr (some 82))), (1, .inl (dp : Int))], [], (I, L, R, Y), 0, 0) _
  refine yi_D_run 1 (1, [(0, .inr (.inr (some 82))), (1, .inl (dp : Int))], [.inr (.inr (some 82))], (I, L, R, Y), 0, 0) (fun _ => rfl) ?_
  refine yi_D_gi (v := 0) rfl rfl rfl hf (fun _ => ?_)
  refine yi_D_if1 true rfl (by decide) ?_
  refine yi_D_run 1 (9, [(0, .inr (.inr (some 82))), (1, .inl (dp : Int))], [.inr (.inr (some 82))], (I, L, R, Y), 0, 0) (fun _ => rfl) ?_
  refine yi_D_callv rfl (q_isName_z hW hf hA) ?_
  rintro _ (⟨c1, rfl⟩ | ⟨c1, rfl⟩)
  · show yi_D zi_Ms d zi_m97 k (12, [(0, .inr (.inr (some 82))), (1, .inl (dp : Int))], [.inl 1], (I, L, R, Y), 0, 0) _
    refine yi_D_if1 true rfl (by decide) ?_
    refine yi_D_run 4 (76, [(2, .inl 1), (0, .inr (.inr (some 82))), (1, .inl (dp : Int))], [.inl 1], (I, L, R, Y), 0, 0) (fun _ => rfl) ?_
    refine yi_D_if1 true rfl (by decide) ?_
    refine yi_D_run 1 (88, [(2, .inl 1), (0, .inr (.inr (some 82))), (1, .inl (dp : Int))], [.inr (.inr (some 82))], (I, L, R, Y), 0, 0) (fun _ => rfl) ?_
    refine yi_D_callv rfl (q_isName_z hW hf hA) ?_
    rintro _ (⟨c2, rfl⟩ | ⟨c2, rfl⟩)
    · show yi_D zi_Ms d zi_m97 k (91, [(2, .inl 1), (0, .inr (.inr (some 82))), (1, .inl (dp : Int))], [.inl 1], (I, L, R, Y), 0, 0) _
      refine yi_D_if1 false rfl (by decide) ?_
      refine yi_D_run 1 (95, [(2, .inl 1), (0, .inr (.inr (some 82))), (1, .inl (dp : Int))], [.inr (.inr (some 82))], (I, L, R, Y), 0, 0) (fun _ => rfl) ?_
      refine yi_D_callv rfl (q_find_z hW hf hA (by omega)) ?_
      rintro _ rfl
      show yi_D zi_Ms d zi_m97 k (98, [(2, .inl 1), (0, .inr (.inr (some 82))), (1, .inl (dp : Int))], [.inl (nm (V a))], (I, L, R, Y), 0, 0) _
      refine yi_D_run 2 (100, [(2, .inl 1), (0, .inr (.inr (some 82))), (1, .inl (dp : Int))], [.inl 3, .inl 0, .inl (nm (V a))], (I, L, R, Y), 0, 0) (fun _ => rfl) ?_
      refine yi_D_calls rfl (q_within) ?_
      rintro _ (⟨c3, rfl⟩ | ⟨c3, rfl⟩)
      · show yi_D zi_Ms d zi_m97 k (103, [(2, .inl 1), (0, .inr (.inr (some 82))), (1, .inl (dp : Int))], [.inl 1], (I, L, R, Y), 0, 0) _
        refine yi_D_if1 true rfl (by decide) ?_
        refine yi_D_run 2 (116, [(2, .inl 1), (0, .inr (.inr (some 82))), (1, .inl (dp : Int))], [.inl 5, .inl (dp : Int)], (I, L, R, Y), 0, 0) (fun _ => rfl) ?_
        by_cases h4 : (dp : Int) = 5
        · refine yi_D_if2 false rfl (yi_ne_f h4) ?_
          refine yi_D_run 2 (121, [(2, .inl 1), (0, .inr (.inr (some 82))), (1, .inl (dp : Int))], [.inl 5, .inr (.inr (some 82))], (I, L, R, Y), 0, 0) (fun _ => rfl) ?_
          refine yi_D_callv rfl (q_wrong_z ⟨by omega, by omega⟩ hW hf hA) ?_
          rintro _ ⟨I5, rfl, hg6, he7⟩
          have hGw8 : mt_G I I5 := fun p k hp => hg6 p k (by omega)
          have hW9 := mt_W_t hW (mt_G_F hGw8)
          have hF10 := (mt_G_F hGw8)
          have hG11 := hGw8
          have hmc12 := mc_G hm hGw8
          have hz13 : 0 < sp_f P a 5 := mt_f_ne hW hA.2 (by omega)
          have hn14 : 0 < I5 82 8 := by rw [he7]; exact hz13
          have hx15 : sp_R K P V (3, a, dp, sk, ld, nm, cs) (.inr (sp_f P a 5)) := sp_R_1 (by
            show sp_item K P V a dp sk ld nm cs = _
            first
            | (exfalso; omega)
            | (unfold sp_item; (repeat (first | rw [if_pos (by omega)] | rw [if_neg (by omega)])); done))
          show yi_D zi_Ms d zi_m97 k (124, [(2, .inl 1), (0, .inr (.inr (some 82))), (1, .inl (dp : Int))], [], (I5, L, R, Y), 0, 0) _
          refine yi_D_run 1 (125, [(2, .inl 1), (0, .inr (.inr (some 82))), (1, .inl (dp : Int))], [.inr (.inr (some 82))], (I5, L, R, Y), 0, 0) (fun _ => rfl) ?_
          refine yi_D_gi (v := I5 82 8) rfl rfl rfl rfl (fun _ => ?_)
          have h16 : ¬ ((I5 82 8) ≤ 0) := by omega
          refine yi_D_if1 false rfl (yi_le_f h16) ?_
          refine yi_D_retv rfl ?_
          exact ⟨_, rfl, hF10, Or.inr ⟨_, hx15, hz13, he7⟩⟩
        · refine yi_D_if2 true rfl (yi_ne_t h4) ?_
          refine yi_D_run 1 (125, [(2, .inl 1), (0, .inr (.inr (some 82))), (1, .inl (dp : Int))], [.inr (.inr (some 82))], (I, L, R, Y), 0, 0) (fun _ => rfl) ?_
          refine yi_D_gi (v := 0) rfl rfl rfl hf (fun _ => ?_)
          refine yi_D_if1 true rfl (by decide) ?_
          refine yi_D_run 2 (135, [(2, .inl 1), (0, .inr (.inr (some 82))), (1, .inl (dp : Int))], [.inl 26, .inr (.inr (some 82))], (I, L, R, Y), 0, 0) (fun _ => rfl) ?_
          refine yi_D_callv rfl (q_hasWord_z (by omega) (by omega) hW hf hA) ?_
          rintro _ (⟨c17, I18, rfl, hGa19, hf20, hA21⟩ | ⟨c22, I23, rfl, hGa24, hf25, hA26⟩)
          · exfalso; omega
          · have hA26 : mt_A I23 te a := hA26
            have hW27 := mt_W_t hW (mt_G_F hGa24)
            have hF28 := (mt_G_F hGa24)
            have hG29 := hGa24
            have hmc30 := mc_G hm hGa24
            show yi_D zi_Ms d zi_m97 k (138, [(2, .inl 1), (0, .inr (.inr (some 82))), (1, .inl (dp : Int))], [.inl 0], (I23, L, R, Y), 0, 0) _
            refine yi_D_if1 true rfl (by decide) ?_
            refine yi_D_run 2 (160, [(2, .inl 1), (0, .inr (.inr (some 82))), (1, .inl (dp : Int))], [.inl 40, .inr (.inr (some 82))], (I23, L, R, Y), 0, 0) (fun _ => rfl) ?_
            refine yi_D_callv rfl (q_hasSign_z (by omega) hW27 hf25 hA26) ?_
            rintro _ (⟨c31, I32, rfl, hGa33, hf34, hA35⟩ | ⟨c36, I37, rfl, hGa38, hf39, hA40⟩)
            · exfalso; omega
            · have hA40 : mt_A I37 te a := hA40
              have hW41 := mt_W_t hW27 (mt_G_F hGa38)
              have hF42 := mt_F_t hF28 (mt_G_F hGa38)
              have hG43 := mt_G_t hG29 hGa38
              have hmc44 := mc_G hmc30 hGa38
              show yi_D zi_Ms d zi_m97 k (163, [(2, .inl 1), (0, .inr (.inr (some 82))), (1, .inl (dp : Int))], [.inl 0], (I37, L, R, Y), 0, 0) _
              refine yi_D_if1 true rfl (by decide) ?_
              refine yi_D_run 3 (186, [(2, .inl 1), (0, .inr (.inr (some 82))), (1, .inl (dp : Int))], [.inr (.inr (some 82)), .inl 11, .inr (.inr (some 82))], (I37, L, R, Y), 0, 0) (fun _ => rfl) ?_
              refine yi_D_callv rfl (q_readClauseC hW41 hf39 hA40 (by omega) (by omega) hmc44) ?_
              rintro _ ⟨z46, I45, rfl, hGc47, (⟨a48, hs49, hf50, hA51⟩ | ⟨f52, hs49, hz53, he54⟩)⟩
              · have hW55 := mt_W_t hW41 (mt_G_F hGc47)
                have hF56 := mt_F_t hF42 (mt_G_F hGc47)
                have hG57 := mt_G_t hG43 hGc47
                have hmc58 := mc_G hmc44 hGc47
                have hR59 : sp_R K P V (3, a, dp, sk, ld, nm, cs) (.inl (4, a48, dp, sk, ld, nm, cs ++ [(11, z46)])) := sp_R_1 (by
                  show sp_item K P V a dp sk ld nm cs = _
                  unfold sp_item
                  (repeat (first | rw [if_pos (by omega)] | rw [if_neg (by omega)]))
                  rw [hs49])
                have lt60 : a < a48 := sp_cl_lt hs49
                show yi_D zi_Ms d zi_m97 k (189, [(2, .inl 1), (0, .inr (.inr (some 82))), (1, .inl (dp : Int))], [.inl z46, .inl 11, .inr (.inr (some 82))], (I45, L, R, Y), 0, 0) _
                refine yi_D_callv rfl (q_emitC hW55 hmc58) ?_
                rintro _ ⟨I61, rfl, hE62, hmc63⟩
                have hW64 := mt_W_t hW55 (mt_E_F hE62)
                have hF65 := mt_F_t hF56 (mt_E_F hE62)
                have hf66 : I61 82 8 = 0 := (hE62.1 82 8 (by omega)).trans hf50
                have hA67 : mt_A I61 te a48 := ⟨(hE62.1 82 7 (by omega)).trans hA51.1, hA51.2⟩
                have hwf68 : wfX pF (11 - 2 * dp) cs (cs ++ [(11, z46)]) := wfX_1 (by omega) (Or.inr (Or.inr rfl)) pF_11
                show yi_D zi_Ms d zi_m97 k (192, [(2, .inl 1), (0, .inr (.inr (some 82))), (1, .inl (dp : Int))], [], (I61, L, R, Y), 0, 0) _
                refine yi_D_retv rfl ?_
                exact ⟨_, rfl, hF65, Or.inl ⟨_, _, hR59, by omega, hf66, hA67, hmc63, hwf68⟩⟩
              · have hW69 := mt_W_t hW41 (mt_G_F hGc47)
                have hF70 := mt_F_t hF42 (mt_G_F hGc47)
                have hG71 := mt_G_t hG43 hGc47
                have hmc72 := mc_G hmc44 hGc47
                have hn73 : 0 < I45 82 8 := by rw [he54]; exact hz53
                have hx74 : sp_R K P V (3, a, dp, sk, ld, nm, cs) (.inr f52) := sp_R_1 (by
                  show sp_item K P V a dp sk ld nm cs = _
                  unfold sp_item
                  (repeat (first | rw [if_pos (by omega)] | rw [if_neg (by omega)]))
                  rw [hs49])
                show yi_D zi_Ms d zi_m97 k (189, [(2, .inl 1), (0, .inr (.inr (some 82))), (1, .inl (dp : Int))], [.inl z46, .inl 11, .inr (.inr (some 82))], (I45, L, R, Y), 0, 0) _
                refine yi_D_callv rfl (q_emit hW69) ?_
                rintro _ ⟨I75, rfl, hE76⟩
                have hW77 := mt_W_t hW69 (mt_E_F hE76)
                have hF78 := mt_F_t hF70 (mt_E_F hE76)
                have hf79 : 0 < I75 82 8 := by rw [hE76.1 82 8 (by omega)]; exact hn73
                have he80 := (hE76.1 82 8 (by omega)).trans he54
                show yi_D zi_Ms d zi_m97 k (192, [(2, .inl 1), (0, .inr (.inr (some 82))), (1, .inl (dp : Int))], [], (I75, L, R, Y), 0, 0) _
                refine yi_D_retv rfl ?_
                exact ⟨_, rfl, hF78, Or.inr ⟨_, hx74, hz53, he80⟩⟩
      · show yi_D zi_Ms d zi_m97 k (103, [(2, .inl 1), (0, .inr (.inr (some 82))), (1, .inl (dp : Int))], [.inl 0], (I, L, R, Y), 0, 0) _
        refine yi_D_if1 false rfl (by decide) ?_
        refine yi_D_run 2 (108, [(2, .inl 1), (0, .inr (.inr (some 82))), (1, .inl (dp : Int))], [.inl 2, .inr (.inr (some 82))], (I, L, R, Y), 0, 0) (fun _ => rfl) ?_
        refine yi_D_callv rfl (q_wrong_z ⟨by omega, by omega⟩ hW hf hA) ?_
        rintro _ ⟨I81, rfl, hg82, he83⟩
        have hGw84 : mt_G I I81 := fun p k hp => hg82 p k (by omega)
        have hW85 := mt_W_t hW (mt_G_F hGw84)
        have hF86 := (mt_G_F hGw84)
        have hG87 := hGw84
        have hmc88 := mc_G hm hGw84
        have hz89 : 0 < sp_f P a 2 := mt_f_ne hW hA.2 (by omega)
        have hn90 : 0 < I81 82 8 := by rw [he83]; exact hz89
        have hx91 : sp_R K P V (3, a, dp, sk, ld, nm, cs) (.inr (sp_f P a 2)) := sp_R_1 (by
          show sp_item K P V a dp sk ld nm cs = _
          first
          | (exfalso; omega)
          | (unfold sp_item; (repeat (first | rw [if_pos (by omega)] | rw [if_neg (by omega)])); done))
        show yi_D zi_Ms d zi_m97 k (111, [(2, .inl 1), (0, .inr (.inr (some 82))), (1, .inl (dp : Int))], [], (I81, L, R, Y), 0, 0) _
        refine yi_D_run 2 (125, [(2, .inl 1), (0, .inr (.inr (some 82))), (1, .inl (dp : Int))], [.inr (.inr (some 82))], (I81, L, R, Y), 0, 0) (fun _ => rfl) ?_
        refine yi_D_gi (v := I81 82 8) rfl rfl rfl rfl (fun _ => ?_)
        have h92 : ¬ ((I81 82 8) ≤ 0) := by omega
        refine yi_D_if1 false rfl (yi_le_f h92) ?_
        refine yi_D_retv rfl ?_
        exact ⟨_, rfl, hF86, Or.inr ⟨_, hx91, hz89, he83⟩⟩
    · exfalso; omega
  · show yi_D zi_Ms d zi_m97 k (12, [(0, .inr (.inr (some 82))), (1, .inl (dp : Int))], [.inl 0], (I, L, R, Y), 0, 0) _
    refine yi_D_if1 false rfl (by decide) ?_
    refine yi_D_run 2 (18, [(0, .inr (.inr (some 82))), (1, .inl (dp : Int))], [.inl 10, .inr (.inr (some 82))], (I, L, R, Y), 0, 0) (fun _ => rfl) ?_
    refine yi_D_callv rfl (q_isWord_z (by omega) (by omega) hW hf hA) ?_
    rintro _ (⟨c93, rfl⟩ | ⟨c93, rfl⟩)
    · show yi_D zi_Ms d zi_m97 k (21, [(0, .inr (.inr (some 82))), (1, .inl (dp : Int))], [.inl 1], (I, L, R, Y), 0, 0) _
      refine yi_D_if1 true rfl (by decide) ?_
      refine yi_D_run 4 (76, [(2, .inl 1), (0, .inr (.inr (some 82))), (1, .inl (dp : Int))], [.inl 1], (I, L, R, Y), 0, 0) (fun _ => rfl) ?_
      refine yi_D_if1 true rfl (by decide) ?_
      refine yi_D_run 1 (88, [(2, .inl 1), (0, .inr (.inr (some 82))), (1, .inl (dp : Int))], [.inr (.inr (some 82))], (I, L, R, Y), 0, 0) (fun _ => rfl) ?_
      refine yi_D_callv rfl (q_isName_z hW hf hA) ?_
      rintro _ (⟨c94, rfl⟩ | ⟨c94, rfl⟩)
      · exfalso; omega
      · show yi_D zi_Ms d zi_m97 k (91, [(2, .inl 1), (0, .inr (.inr (some 82))), (1, .inl (dp : Int))], [.inl 0], (I, L, R, Y), 0, 0) _
        refine yi_D_if1 true rfl (by decide) ?_
        refine yi_D_run 2 (116, [(2, .inl 1), (0, .inr (.inr (some 82))), (1, .inl (dp : Int))], [.inl 5, .inl (dp : Int)], (I, L, R, Y), 0, 0) (fun _ => rfl) ?_
        by_cases h95 : (dp : Int) = 5
        · refine yi_D_if2 false rfl (yi_ne_f h95) ?_
          refine yi_D_run 2 (121, [(2, .inl 1), (0, .inr (.inr (some 82))), (1, .inl (dp : Int))], [.inl 5, .inr (.inr (some 82))], (I, L, R, Y), 0, 0) (fun _ => rfl) ?_
          refine yi_D_callv rfl (q_wrong_z ⟨by omega, by omega⟩ hW hf hA) ?_
          rintro _ ⟨I96, rfl, hg97, he98⟩
          have hGw99 : mt_G I I96 := fun p k hp => hg97 p k (by omega)
          have hW100 := mt_W_t hW (mt_G_F hGw99)
          have hF101 := (mt_G_F hGw99)
          have hG102 := hGw99
          have hmc103 := mc_G hm hGw99
          have hz104 : 0 < sp_f P a 5 := mt_f_ne hW hA.2 (by omega)
          have hn105 : 0 < I96 82 8 := by rw [he98]; exact hz104
          have hx106 : sp_R K P V (3, a, dp, sk, ld, nm, cs) (.inr (sp_f P a 5)) := sp_R_1 (by
            show sp_item K P V a dp sk ld nm cs = _
            first
            | (exfalso; omega)
            | (unfold sp_item; (repeat (first | rw [if_pos (by omega)] | rw [if_neg (by omega)])); done))
          show yi_D zi_Ms d zi_m97 k (124, [(2, .inl 1), (0, .inr (.inr (some 82))), (1, .inl (dp : Int))], [], (I96, L, R, Y), 0, 0) _
          refine yi_D_run 1 (125, [(2, .inl 1), (0, .inr (.inr (some 82))), (1, .inl (dp : Int))], [.inr (.inr (some 82))], (I96, L, R, Y), 0, 0) (fun _ => rfl) ?_
          refine yi_D_gi (v := I96 82 8) rfl rfl rfl rfl (fun _ => ?_)
          have h107 : ¬ ((I96 82 8) ≤ 0) := by omega
          refine yi_D_if1 false rfl (yi_le_f h107) ?_
          refine yi_D_retv rfl ?_
          exact ⟨_, rfl, hF101, Or.inr ⟨_, hx106, hz104, he98⟩⟩
        · refine yi_D_if2 true rfl (yi_ne_t h95) ?_
          refine yi_D_run 1 (125, [(2, .inl 1), (0, .inr (.inr (some 82))), (1, .inl (dp : Int))], [.inr (.inr (some 82))], (I, L, R, Y), 0, 0) (fun _ => rfl) ?_
          refine yi_D_gi (v := 0) rfl rfl rfl hf (fun _ => ?_)
          refine yi_D_if1 true rfl (by decide) ?_
          refine yi_D_run 2 (135, [(2, .inl 1), (0, .inr (.inr (some 82))), (1, .inl (dp : Int))], [.inl 26, .inr (.inr (some 82))], (I, L, R, Y), 0, 0) (fun _ => rfl) ?_
          refine yi_D_callv rfl (q_hasWord_z (by omega) (by omega) hW hf hA) ?_
          rintro _ (⟨c108, I109, rfl, hGa110, hf111, hA112⟩ | ⟨c113, I114, rfl, hGa115, hf116, hA117⟩)
          · exfalso; omega
          · have hA117 : mt_A I114 te a := hA117
            have hW118 := mt_W_t hW (mt_G_F hGa115)
            have hF119 := (mt_G_F hGa115)
            have hG120 := hGa115
            have hmc121 := mc_G hm hGa115
            show yi_D zi_Ms d zi_m97 k (138, [(2, .inl 1), (0, .inr (.inr (some 82))), (1, .inl (dp : Int))], [.inl 0], (I114, L, R, Y), 0, 0) _
            refine yi_D_if1 true rfl (by decide) ?_
            refine yi_D_run 2 (160, [(2, .inl 1), (0, .inr (.inr (some 82))), (1, .inl (dp : Int))], [.inl 40, .inr (.inr (some 82))], (I114, L, R, Y), 0, 0) (fun _ => rfl) ?_
            refine yi_D_callv rfl (q_hasSign_z (by omega) hW118 hf116 hA117) ?_
            rintro _ (⟨c122, I123, rfl, hGa124, hf125, hA126⟩ | ⟨c127, I128, rfl, hGa129, hf130, hA131⟩)
            · exfalso; omega
            · have hA131 : mt_A I128 te a := hA131
              have hW132 := mt_W_t hW118 (mt_G_F hGa129)
              have hF133 := mt_F_t hF119 (mt_G_F hGa129)
              have hG134 := mt_G_t hG120 hGa129
              have hmc135 := mc_G hmc121 hGa129
              show yi_D zi_Ms d zi_m97 k (163, [(2, .inl 1), (0, .inr (.inr (some 82))), (1, .inl (dp : Int))], [.inl 0], (I128, L, R, Y), 0, 0) _
              refine yi_D_if1 true rfl (by decide) ?_
              refine yi_D_run 3 (186, [(2, .inl 1), (0, .inr (.inr (some 82))), (1, .inl (dp : Int))], [.inr (.inr (some 82)), .inl 11, .inr (.inr (some 82))], (I128, L, R, Y), 0, 0) (fun _ => rfl) ?_
              refine yi_D_callv rfl (q_readClauseC hW132 hf130 hA131 (by omega) (by omega) hmc135) ?_
              rintro _ ⟨z137, I136, rfl, hGc138, (⟨a139, hs140, hf141, hA142⟩ | ⟨f143, hs140, hz144, he145⟩)⟩
              · have hW146 := mt_W_t hW132 (mt_G_F hGc138)
                have hF147 := mt_F_t hF133 (mt_G_F hGc138)
                have hG148 := mt_G_t hG134 hGc138
                have hmc149 := mc_G hmc135 hGc138
                have hR150 : sp_R K P V (3, a, dp, sk, ld, nm, cs) (.inl (4, a139, dp, sk, ld, nm, cs ++ [(11, z137)])) := sp_R_1 (by
                  show sp_item K P V a dp sk ld nm cs = _
                  unfold sp_item
                  (repeat (first | rw [if_pos (by omega)] | rw [if_neg (by omega)]))
                  rw [hs140])
                have lt151 : a < a139 := sp_cl_lt hs140
                show yi_D zi_Ms d zi_m97 k (189, [(2, .inl 1), (0, .inr (.inr (some 82))), (1, .inl (dp : Int))], [.inl z137, .inl 11, .inr (.inr (some 82))], (I136, L, R, Y), 0, 0) _
                refine yi_D_callv rfl (q_emitC hW146 hmc149) ?_
                rintro _ ⟨I152, rfl, hE153, hmc154⟩
                have hW155 := mt_W_t hW146 (mt_E_F hE153)
                have hF156 := mt_F_t hF147 (mt_E_F hE153)
                have hf157 : I152 82 8 = 0 := (hE153.1 82 8 (by omega)).trans hf141
                have hA158 : mt_A I152 te a139 := ⟨(hE153.1 82 7 (by omega)).trans hA142.1, hA142.2⟩
                have hwf159 : wfX pF (11 - 2 * dp) cs (cs ++ [(11, z137)]) := wfX_1 (by omega) (Or.inr (Or.inr rfl)) pF_11
                show yi_D zi_Ms d zi_m97 k (192, [(2, .inl 1), (0, .inr (.inr (some 82))), (1, .inl (dp : Int))], [], (I152, L, R, Y), 0, 0) _
                refine yi_D_retv rfl ?_
                exact ⟨_, rfl, hF156, Or.inl ⟨_, _, hR150, by omega, hf157, hA158, hmc154, hwf159⟩⟩
              · have hW160 := mt_W_t hW132 (mt_G_F hGc138)
                have hF161 := mt_F_t hF133 (mt_G_F hGc138)
                have hG162 := mt_G_t hG134 hGc138
                have hmc163 := mc_G hmc135 hGc138
                have hn164 : 0 < I136 82 8 := by rw [he145]; exact hz144
                have hx165 : sp_R K P V (3, a, dp, sk, ld, nm, cs) (.inr f143) := sp_R_1 (by
                  show sp_item K P V a dp sk ld nm cs = _
                  unfold sp_item
                  (repeat (first | rw [if_pos (by omega)] | rw [if_neg (by omega)]))
                  rw [hs140])
                show yi_D zi_Ms d zi_m97 k (189, [(2, .inl 1), (0, .inr (.inr (some 82))), (1, .inl (dp : Int))], [.inl z137, .inl 11, .inr (.inr (some 82))], (I136, L, R, Y), 0, 0) _
                refine yi_D_callv rfl (q_emit hW160) ?_
                rintro _ ⟨I166, rfl, hE167⟩
                have hW168 := mt_W_t hW160 (mt_E_F hE167)
                have hF169 := mt_F_t hF161 (mt_E_F hE167)
                have hf170 : 0 < I166 82 8 := by rw [hE167.1 82 8 (by omega)]; exact hn164
                have he171 := (hE167.1 82 8 (by omega)).trans he145
                show yi_D zi_Ms d zi_m97 k (192, [(2, .inl 1), (0, .inr (.inr (some 82))), (1, .inl (dp : Int))], [], (I166, L, R, Y), 0, 0) _
                refine yi_D_retv rfl ?_
                exact ⟨_, rfl, hF169, Or.inr ⟨_, hx165, hz144, he171⟩⟩
    · show yi_D zi_Ms d zi_m97 k (21, [(0, .inr (.inr (some 82))), (1, .inl (dp : Int))], [.inl 0], (I, L, R, Y), 0, 0) _
      refine yi_D_if1 false rfl (by decide) ?_
      refine yi_D_run 2 (27, [(0, .inr (.inr (some 82))), (1, .inl (dp : Int))], [.inl 11, .inr (.inr (some 82))], (I, L, R, Y), 0, 0) (fun _ => rfl) ?_
      refine yi_D_callv rfl (q_isWord_z (by omega) (by omega) hW hf hA) ?_
      rintro _ (⟨c172, rfl⟩ | ⟨c172, rfl⟩)
      · show yi_D zi_Ms d zi_m97 k (30, [(0, .inr (.inr (some 82))), (1, .inl (dp : Int))], [.inl 1], (I, L, R, Y), 0, 0) _
        refine yi_D_if1 true rfl (by decide) ?_
        refine yi_D_run 4 (76, [(2, .inl 1), (0, .inr (.inr (some 82))), (1, .inl (dp : Int))], [.inl 1], (I, L, R, Y), 0, 0) (fun _ => rfl) ?_
        refine yi_D_if1 true rfl (by decide) ?_
        refine yi_D_run 1 (88, [(2, .inl 1), (0, .inr (.inr (some 82))), (1, .inl (dp : Int))], [.inr (.inr (some 82))], (I, L, R, Y), 0, 0) (fun _ => rfl) ?_
        refine yi_D_callv rfl (q_isName_z hW hf hA) ?_
        rintro _ (⟨c173, rfl⟩ | ⟨c173, rfl⟩)
        · exfalso; omega
        · show yi_D zi_Ms d zi_m97 k (91, [(2, .inl 1), (0, .inr (.inr (some 82))), (1, .inl (dp : Int))], [.inl 0], (I, L, R, Y), 0, 0) _
          refine yi_D_if1 true rfl (by decide) ?_
          refine yi_D_run 2 (116, [(2, .inl 1), (0, .inr (.inr (some 82))), (1, .inl (dp : Int))], [.inl 5, .inl (dp : Int)], (I, L, R, Y), 0, 0) (fun _ => rfl) ?_
          by_cases h174 : (dp : Int) = 5
          · refine yi_D_if2 false rfl (yi_ne_f h174) ?_
            refine yi_D_run 2 (121, [(2, .inl 1), (0, .inr (.inr (some 82))), (1, .inl (dp : Int))], [.inl 5, .inr (.inr (some 82))], (I, L, R, Y), 0, 0) (fun _ => rfl) ?_
            refine yi_D_callv rfl (q_wrong_z ⟨by omega, by omega⟩ hW hf hA) ?_
            rintro _ ⟨I175, rfl, hg176, he177⟩
            have hGw178 : mt_G I I175 := fun p k hp => hg176 p k (by omega)
            have hW179 := mt_W_t hW (mt_G_F hGw178)
            have hF180 := (mt_G_F hGw178)
            have hG181 := hGw178
            have hmc182 := mc_G hm hGw178
            have hz183 : 0 < sp_f P a 5 := mt_f_ne hW hA.2 (by omega)
            have hn184 : 0 < I175 82 8 := by rw [he177]; exact hz183
            have hx185 : sp_R K P V (3, a, dp, sk, ld, nm, cs) (.inr (sp_f P a 5)) := sp_R_1 (by
              show sp_item K P V a dp sk ld nm cs = _
              first
              | (exfalso; omega)
              | (unfold sp_item; (repeat (first | rw [if_pos (by omega)] | rw [if_neg (by omega)])); done))
            show yi_D zi_Ms d zi_m97 k (124, [(2, .inl 1), (0, .inr (.inr (some 82))), (1, .inl (dp : Int))], [], (I175, L, R, Y), 0, 0) _
            refine yi_D_run 1 (125, [(2, .inl 1), (0, .inr (.inr (some 82))), (1, .inl (dp : Int))], [.inr (.inr (some 82))], (I175, L, R, Y), 0, 0) (fun _ => rfl) ?_
            refine yi_D_gi (v := I175 82 8) rfl rfl rfl rfl (fun _ => ?_)
            have h186 : ¬ ((I175 82 8) ≤ 0) := by omega
            refine yi_D_if1 false rfl (yi_le_f h186) ?_
            refine yi_D_retv rfl ?_
            exact ⟨_, rfl, hF180, Or.inr ⟨_, hx185, hz183, he177⟩⟩
          · refine yi_D_if2 true rfl (yi_ne_t h174) ?_
            refine yi_D_run 1 (125, [(2, .inl 1), (0, .inr (.inr (some 82))), (1, .inl (dp : Int))], [.inr (.inr (some 82))], (I, L, R, Y), 0, 0) (fun _ => rfl) ?_
            refine yi_D_gi (v := 0) rfl rfl rfl hf (fun _ => ?_)
            refine yi_D_if1 true rfl (by decide) ?_
            refine yi_D_run 2 (135, [(2, .inl 1), (0, .inr (.inr (some 82))), (1, .inl (dp : Int))], [.inl 26, .inr (.inr (some 82))], (I, L, R, Y), 0, 0) (fun _ => rfl) ?_
            refine yi_D_callv rfl (q_hasWord_z (by omega) (by omega) hW hf hA) ?_
            rintro _ (⟨c187, I188, rfl, hGa189, hf190, hA191⟩ | ⟨c192, I193, rfl, hGa194, hf195, hA196⟩)
            · exfalso; omega
            · have hA196 : mt_A I193 te a := hA196
              have hW197 := mt_W_t hW (mt_G_F hGa194)
              have hF198 := (mt_G_F hGa194)
              have hG199 := hGa194
              have hmc200 := mc_G hm hGa194
              show yi_D zi_Ms d zi_m97 k (138, [(2, .inl 1), (0, .inr (.inr (some 82))), (1, .inl (dp : Int))], [.inl 0], (I193, L, R, Y), 0, 0) _
              refine yi_D_if1 true rfl (by decide) ?_
              refine yi_D_run 2 (160, [(2, .inl 1), (0, .inr (.inr (some 82))), (1, .inl (dp : Int))], [.inl 40, .inr (.inr (some 82))], (I193, L, R, Y), 0, 0) (fun _ => rfl) ?_
              refine yi_D_callv rfl (q_hasSign_z (by omega) hW197 hf195 hA196) ?_
              rintro _ (⟨c201, I202, rfl, hGa203, hf204, hA205⟩ | ⟨c206, I207, rfl, hGa208, hf209, hA210⟩)
              · exfalso; omega
              · have hA210 : mt_A I207 te a := hA210
                have hW211 := mt_W_t hW197 (mt_G_F hGa208)
                have hF212 := mt_F_t hF198 (mt_G_F hGa208)
                have hG213 := mt_G_t hG199 hGa208
                have hmc214 := mc_G hmc200 hGa208
                show yi_D zi_Ms d zi_m97 k (163, [(2, .inl 1), (0, .inr (.inr (some 82))), (1, .inl (dp : Int))], [.inl 0], (I207, L, R, Y), 0, 0) _
                refine yi_D_if1 true rfl (by decide) ?_
                refine yi_D_run 3 (186, [(2, .inl 1), (0, .inr (.inr (some 82))), (1, .inl (dp : Int))], [.inr (.inr (some 82)), .inl 11, .inr (.inr (some 82))], (I207, L, R, Y), 0, 0) (fun _ => rfl) ?_
                refine yi_D_callv rfl (q_readClauseC hW211 hf209 hA210 (by omega) (by omega) hmc214) ?_
                rintro _ ⟨z216, I215, rfl, hGc217, (⟨a218, hs219, hf220, hA221⟩ | ⟨f222, hs219, hz223, he224⟩)⟩
                · have hW225 := mt_W_t hW211 (mt_G_F hGc217)
                  have hF226 := mt_F_t hF212 (mt_G_F hGc217)
                  have hG227 := mt_G_t hG213 hGc217
                  have hmc228 := mc_G hmc214 hGc217
                  have hR229 : sp_R K P V (3, a, dp, sk, ld, nm, cs) (.inl (4, a218, dp, sk, ld, nm, cs ++ [(11, z216)])) := sp_R_1 (by
                    show sp_item K P V a dp sk ld nm cs = _
                    unfold sp_item
                    (repeat (first | rw [if_pos (by omega)] | rw [if_neg (by omega)]))
                    rw [hs219])
                  have lt230 : a < a218 := sp_cl_lt hs219
                  show yi_D zi_Ms d zi_m97 k (189, [(2, .inl 1), (0, .inr (.inr (some 82))), (1, .inl (dp : Int))], [.inl z216, .inl 11, .inr (.inr (some 82))], (I215, L, R, Y), 0, 0) _
                  refine yi_D_callv rfl (q_emitC hW225 hmc228) ?_
                  rintro _ ⟨I231, rfl, hE232, hmc233⟩
                  have hW234 := mt_W_t hW225 (mt_E_F hE232)
                  have hF235 := mt_F_t hF226 (mt_E_F hE232)
                  have hf236 : I231 82 8 = 0 := (hE232.1 82 8 (by omega)).trans hf220
                  have hA237 : mt_A I231 te a218 := ⟨(hE232.1 82 7 (by omega)).trans hA221.1, hA221.2⟩
                  have hwf238 : wfX pF (11 - 2 * dp) cs (cs ++ [(11, z216)]) := wfX_1 (by omega) (Or.inr (Or.inr rfl)) pF_11
                  show yi_D zi_Ms d zi_m97 k (192, [(2, .inl 1), (0, .inr (.inr (some 82))), (1, .inl (dp : Int))], [], (I231, L, R, Y), 0, 0) _
                  refine yi_D_retv rfl ?_
                  exact ⟨_, rfl, hF235, Or.inl ⟨_, _, hR229, by omega, hf236, hA237, hmc233, hwf238⟩⟩
                · have hW239 := mt_W_t hW211 (mt_G_F hGc217)
                  have hF240 := mt_F_t hF212 (mt_G_F hGc217)
                  have hG241 := mt_G_t hG213 hGc217
                  have hmc242 := mc_G hmc214 hGc217
                  have hn243 : 0 < I215 82 8 := by rw [he224]; exact hz223
                  have hx244 : sp_R K P V (3, a, dp, sk, ld, nm, cs) (.inr f222) := sp_R_1 (by
                    show sp_item K P V a dp sk ld nm cs = _
                    unfold sp_item
                    (repeat (first | rw [if_pos (by omega)] | rw [if_neg (by omega)]))
                    rw [hs219])
                  show yi_D zi_Ms d zi_m97 k (189, [(2, .inl 1), (0, .inr (.inr (some 82))), (1, .inl (dp : Int))], [.inl z216, .inl 11, .inr (.inr (some 82))], (I215, L, R, Y), 0, 0) _
                  refine yi_D_callv rfl (q_emit hW239) ?_
                  rintro _ ⟨I245, rfl, hE246⟩
                  have hW247 := mt_W_t hW239 (mt_E_F hE246)
                  have hF248 := mt_F_t hF240 (mt_E_F hE246)
                  have hf249 : 0 < I245 82 8 := by rw [hE246.1 82 8 (by omega)]; exact hn243
                  have he250 := (hE246.1 82 8 (by omega)).trans he224
                  show yi_D zi_Ms d zi_m97 k (192, [(2, .inl 1), (0, .inr (.inr (some 82))), (1, .inl (dp : Int))], [], (I245, L, R, Y), 0, 0) _
                  refine yi_D_retv rfl ?_
                  exact ⟨_, rfl, hF248, Or.inr ⟨_, hx244, hz223, he250⟩⟩
      · show yi_D zi_Ms d zi_m97 k (30, [(0, .inr (.inr (some 82))), (1, .inl (dp : Int))], [.inl 0], (I, L, R, Y), 0, 0) _
        refine yi_D_if1 false rfl (by decide) ?_
        refine yi_D_run 2 (36, [(0, .inr (.inr (some 82))), (1, .inl (dp : Int))], [.inl 12, .inr (.inr (some 82))], (I, L, R, Y), 0, 0) (fun _ => rfl) ?_
        refine yi_D_callv rfl (q_isWord_z (by omega) (by omega) hW hf hA) ?_
        rintro _ (⟨c251, rfl⟩ | ⟨c251, rfl⟩)
        · show yi_D zi_Ms d zi_m97 k (39, [(0, .inr (.inr (some 82))), (1, .inl (dp : Int))], [.inl 1], (I, L, R, Y), 0, 0) _
          refine yi_D_if1 true rfl (by decide) ?_
          refine yi_D_run 4 (76, [(2, .inl 1), (0, .inr (.inr (some 82))), (1, .inl (dp : Int))], [.inl 1], (I, L, R, Y), 0, 0) (fun _ => rfl) ?_
          refine yi_D_if1 true rfl (by decide) ?_
          refine yi_D_run 1 (88, [(2, .inl 1), (0, .inr (.inr (some 82))), (1, .inl (dp : Int))], [.inr (.inr (some 82))], (I, L, R, Y), 0, 0) (fun _ => rfl) ?_
          refine yi_D_callv rfl (q_isName_z hW hf hA) ?_
          rintro _ (⟨c252, rfl⟩ | ⟨c252, rfl⟩)
          · exfalso; omega
          · show yi_D zi_Ms d zi_m97 k (91, [(2, .inl 1), (0, .inr (.inr (some 82))), (1, .inl (dp : Int))], [.inl 0], (I, L, R, Y), 0, 0) _
            refine yi_D_if1 true rfl (by decide) ?_
            refine yi_D_run 2 (116, [(2, .inl 1), (0, .inr (.inr (some 82))), (1, .inl (dp : Int))], [.inl 5, .inl (dp : Int)], (I, L, R, Y), 0, 0) (fun _ => rfl) ?_
            by_cases h253 : (dp : Int) = 5
            · refine yi_D_if2 false rfl (yi_ne_f h253) ?_
              refine yi_D_run 2 (121, [(2, .inl 1), (0, .inr (.inr (some 82))), (1, .inl (dp : Int))], [.inl 5, .inr (.inr (some 82))], (I, L, R, Y), 0, 0) (fun _ => rfl) ?_
              refine yi_D_callv rfl (q_wrong_z ⟨by omega, by omega⟩ hW hf hA) ?_
              rintro _ ⟨I254, rfl, hg255, he256⟩
              have hGw257 : mt_G I I254 := fun p k hp => hg255 p k (by omega)
              have hW258 := mt_W_t hW (mt_G_F hGw257)
              have hF259 := (mt_G_F hGw257)
              have hG260 := hGw257
              have hmc261 := mc_G hm hGw257
              have hz262 : 0 < sp_f P a 5 := mt_f_ne hW hA.2 (by omega)
              have hn263 : 0 < I254 82 8 := by rw [he256]; exact hz262
              have hx264 : sp_R K P V (3, a, dp, sk, ld, nm, cs) (.inr (sp_f P a 5)) := sp_R_1 (by
                show sp_item K P V a dp sk ld nm cs = _
                first
                | (exfalso; omega)
                | (unfold sp_item; (repeat (first | rw [if_pos (by omega)] | rw [if_neg (by omega)])); done))
              show yi_D zi_Ms d zi_m97 k (124, [(2, .inl 1), (0, .inr (.inr (some 82))), (1, .inl (dp : Int))], [], (I254, L, R, Y), 0, 0) _
              refine yi_D_run 1 (125, [(2, .inl 1), (0, .inr (.inr (some 82))), (1, .inl (dp : Int))], [.inr (.inr (some 82))], (I254, L, R, Y), 0, 0) (fun _ => rfl) ?_
              refine yi_D_gi (v := I254 82 8) rfl rfl rfl rfl (fun _ => ?_)
              have h265 : ¬ ((I254 82 8) ≤ 0) := by omega
              refine yi_D_if1 false rfl (yi_le_f h265) ?_
              refine yi_D_retv rfl ?_
              exact ⟨_, rfl, hF259, Or.inr ⟨_, hx264, hz262, he256⟩⟩
            · refine yi_D_if2 true rfl (yi_ne_t h253) ?_
              refine yi_D_run 1 (125, [(2, .inl 1), (0, .inr (.inr (some 82))), (1, .inl (dp : Int))], [.inr (.inr (some 82))], (I, L, R, Y), 0, 0) (fun _ => rfl) ?_
              refine yi_D_gi (v := 0) rfl rfl rfl hf (fun _ => ?_)
              refine yi_D_if1 true rfl (by decide) ?_
              refine yi_D_run 2 (135, [(2, .inl 1), (0, .inr (.inr (some 82))), (1, .inl (dp : Int))], [.inl 26, .inr (.inr (some 82))], (I, L, R, Y), 0, 0) (fun _ => rfl) ?_
              refine yi_D_callv rfl (q_hasWord_z (by omega) (by omega) hW hf hA) ?_
              rintro _ (⟨c266, I267, rfl, hGa268, hf269, hA270⟩ | ⟨c271, I272, rfl, hGa273, hf274, hA275⟩)
              · exfalso; omega
              · have hA275 : mt_A I272 te a := hA275
                have hW276 := mt_W_t hW (mt_G_F hGa273)
                have hF277 := (mt_G_F hGa273)
                have hG278 := hGa273
                have hmc279 := mc_G hm hGa273
                show yi_D zi_Ms d zi_m97 k (138, [(2, .inl 1), (0, .inr (.inr (some 82))), (1, .inl (dp : Int))], [.inl 0], (I272, L, R, Y), 0, 0) _
                refine yi_D_if1 true rfl (by decide) ?_
                refine yi_D_run 2 (160, [(2, .inl 1), (0, .inr (.inr (some 82))), (1, .inl (dp : Int))], [.inl 40, .inr (.inr (some 82))], (I272, L, R, Y), 0, 0) (fun _ => rfl) ?_
                refine yi_D_callv rfl (q_hasSign_z (by omega) hW276 hf274 hA275) ?_
                rintro _ (⟨c280, I281, rfl, hGa282, hf283, hA284⟩ | ⟨c285, I286, rfl, hGa287, hf288, hA289⟩)
                · exfalso; omega
                · have hA289 : mt_A I286 te a := hA289
                  have hW290 := mt_W_t hW276 (mt_G_F hGa287)
                  have hF291 := mt_F_t hF277 (mt_G_F hGa287)
                  have hG292 := mt_G_t hG278 hGa287
                  have hmc293 := mc_G hmc279 hGa287
                  show yi_D zi_Ms d zi_m97 k (163, [(2, .inl 1), (0, .inr (.inr (some 82))), (1, .inl (dp : Int))], [.inl 0], (I286, L, R, Y), 0, 0) _
                  refine yi_D_if1 true rfl (by decide) ?_
                  refine yi_D_run 3 (186, [(2, .inl 1), (0, .inr (.inr (some 82))), (1, .inl (dp : Int))], [.inr (.inr (some 82)), .inl 11, .inr (.inr (some 82))], (I286, L, R, Y), 0, 0) (fun _ => rfl) ?_
                  refine yi_D_callv rfl (q_readClauseC hW290 hf288 hA289 (by omega) (by omega) hmc293) ?_
                  rintro _ ⟨z295, I294, rfl, hGc296, (⟨a297, hs298, hf299, hA300⟩ | ⟨f301, hs298, hz302, he303⟩)⟩
                  · have hW304 := mt_W_t hW290 (mt_G_F hGc296)
                    have hF305 := mt_F_t hF291 (mt_G_F hGc296)
                    have hG306 := mt_G_t hG292 hGc296
                    have hmc307 := mc_G hmc293 hGc296
                    have hR308 : sp_R K P V (3, a, dp, sk, ld, nm, cs) (.inl (4, a297, dp, sk, ld, nm, cs ++ [(11, z295)])) := sp_R_1 (by
                      show sp_item K P V a dp sk ld nm cs = _
                      unfold sp_item
                      (repeat (first | rw [if_pos (by omega)] | rw [if_neg (by omega)]))
                      rw [hs298])
                    have lt309 : a < a297 := sp_cl_lt hs298
                    show yi_D zi_Ms d zi_m97 k (189, [(2, .inl 1), (0, .inr (.inr (some 82))), (1, .inl (dp : Int))], [.inl z295, .inl 11, .inr (.inr (some 82))], (I294, L, R, Y), 0, 0) _
                    refine yi_D_callv rfl (q_emitC hW304 hmc307) ?_
                    rintro _ ⟨I310, rfl, hE311, hmc312⟩
                    have hW313 := mt_W_t hW304 (mt_E_F hE311)
                    have hF314 := mt_F_t hF305 (mt_E_F hE311)
                    have hf315 : I310 82 8 = 0 := (hE311.1 82 8 (by omega)).trans hf299
                    have hA316 : mt_A I310 te a297 := ⟨(hE311.1 82 7 (by omega)).trans hA300.1, hA300.2⟩
                    have hwf317 : wfX pF (11 - 2 * dp) cs (cs ++ [(11, z295)]) := wfX_1 (by omega) (Or.inr (Or.inr rfl)) pF_11
                    show yi_D zi_Ms d zi_m97 k (192, [(2, .inl 1), (0, .inr (.inr (some 82))), (1, .inl (dp : Int))], [], (I310, L, R, Y), 0, 0) _
                    refine yi_D_retv rfl ?_
                    exact ⟨_, rfl, hF314, Or.inl ⟨_, _, hR308, by omega, hf315, hA316, hmc312, hwf317⟩⟩
                  · have hW318 := mt_W_t hW290 (mt_G_F hGc296)
                    have hF319 := mt_F_t hF291 (mt_G_F hGc296)
                    have hG320 := mt_G_t hG292 hGc296
                    have hmc321 := mc_G hmc293 hGc296
                    have hn322 : 0 < I294 82 8 := by rw [he303]; exact hz302
                    have hx323 : sp_R K P V (3, a, dp, sk, ld, nm, cs) (.inr f301) := sp_R_1 (by
                      show sp_item K P V a dp sk ld nm cs = _
                      unfold sp_item
                      (repeat (first | rw [if_pos (by omega)] | rw [if_neg (by omega)]))
                      rw [hs298])
                    show yi_D zi_Ms d zi_m97 k (189, [(2, .inl 1), (0, .inr (.inr (some 82))), (1, .inl (dp : Int))], [.inl z295, .inl 11, .inr (.inr (some 82))], (I294, L, R, Y), 0, 0) _
                    refine yi_D_callv rfl (q_emit hW318) ?_
                    rintro _ ⟨I324, rfl, hE325⟩
                    have hW326 := mt_W_t hW318 (mt_E_F hE325)
                    have hF327 := mt_F_t hF319 (mt_E_F hE325)
                    have hf328 : 0 < I324 82 8 := by rw [hE325.1 82 8 (by omega)]; exact hn322
                    have he329 := (hE325.1 82 8 (by omega)).trans he303
                    show yi_D zi_Ms d zi_m97 k (192, [(2, .inl 1), (0, .inr (.inr (some 82))), (1, .inl (dp : Int))], [], (I324, L, R, Y), 0, 0) _
                    refine yi_D_retv rfl ?_
                    exact ⟨_, rfl, hF327, Or.inr ⟨_, hx323, hz302, he329⟩⟩
        · show yi_D zi_Ms d zi_m97 k (39, [(0, .inr (.inr (some 82))), (1, .inl (dp : Int))], [.inl 0], (I, L, R, Y), 0, 0) _
          refine yi_D_if1 false rfl (by decide) ?_
          refine yi_D_run 2 (45, [(0, .inr (.inr (some 82))), (1, .inl (dp : Int))], [.inl 13, .inr (.inr (some 82))], (I, L, R, Y), 0, 0) (fun _ => rfl) ?_
          refine yi_D_callv rfl (q_isWord_z (by omega) (by omega) hW hf hA) ?_
          rintro _ (⟨c330, rfl⟩ | ⟨c330, rfl⟩)
          · show yi_D zi_Ms d zi_m97 k (48, [(0, .inr (.inr (some 82))), (1, .inl (dp : Int))], [.inl 1], (I, L, R, Y), 0, 0) _
            refine yi_D_if1 true rfl (by decide) ?_
            refine yi_D_run 4 (76, [(2, .inl 1), (0, .inr (.inr (some 82))), (1, .inl (dp : Int))], [.inl 1], (I, L, R, Y), 0, 0) (fun _ => rfl) ?_
            refine yi_D_if1 true rfl (by decide) ?_
            refine yi_D_run 1 (88, [(2, .inl 1), (0, .inr (.inr (some 82))), (1, .inl (dp : Int))], [.inr (.inr (some 82))], (I, L, R, Y), 0, 0) (fun _ => rfl) ?_
            refine yi_D_callv rfl (q_isName_z hW hf hA) ?_
            rintro _ (⟨c331, rfl⟩ | ⟨c331, rfl⟩)
            · exfalso; omega
            · show yi_D zi_Ms d zi_m97 k (91, [(2, .inl 1), (0, .inr (.inr (some 82))), (1, .inl (dp : Int))], [.inl 0], (I, L, R, Y), 0, 0) _
              refine yi_D_if1 true rfl (by decide) ?_
              refine yi_D_run 2 (116, [(2, .inl 1), (0, .inr (.inr (some 82))), (1, .inl (dp : Int))], [.inl 5, .inl (dp : Int)], (I, L, R, Y), 0, 0) (fun _ => rfl) ?_
              by_cases h332 : (dp : Int) = 5
              · refine yi_D_if2 false rfl (yi_ne_f h332) ?_
                refine yi_D_run 2 (121, [(2, .inl 1), (0, .inr (.inr (some 82))), (1, .inl (dp : Int))], [.inl 5, .inr (.inr (some 82))], (I, L, R, Y), 0, 0) (fun _ => rfl) ?_
                refine yi_D_callv rfl (q_wrong_z ⟨by omega, by omega⟩ hW hf hA) ?_
                rintro _ ⟨I333, rfl, hg334, he335⟩
                have hGw336 : mt_G I I333 := fun p k hp => hg334 p k (by omega)
                have hW337 := mt_W_t hW (mt_G_F hGw336)
                have hF338 := (mt_G_F hGw336)
                have hG339 := hGw336
                have hmc340 := mc_G hm hGw336
                have hz341 : 0 < sp_f P a 5 := mt_f_ne hW hA.2 (by omega)
                have hn342 : 0 < I333 82 8 := by rw [he335]; exact hz341
                have hx343 : sp_R K P V (3, a, dp, sk, ld, nm, cs) (.inr (sp_f P a 5)) := sp_R_1 (by
                  show sp_item K P V a dp sk ld nm cs = _
                  first
                  | (exfalso; omega)
                  | (unfold sp_item; (repeat (first | rw [if_pos (by omega)] | rw [if_neg (by omega)])); done))
                show yi_D zi_Ms d zi_m97 k (124, [(2, .inl 1), (0, .inr (.inr (some 82))), (1, .inl (dp : Int))], [], (I333, L, R, Y), 0, 0) _
                refine yi_D_run 1 (125, [(2, .inl 1), (0, .inr (.inr (some 82))), (1, .inl (dp : Int))], [.inr (.inr (some 82))], (I333, L, R, Y), 0, 0) (fun _ => rfl) ?_
                refine yi_D_gi (v := I333 82 8) rfl rfl rfl rfl (fun _ => ?_)
                have h344 : ¬ ((I333 82 8) ≤ 0) := by omega
                refine yi_D_if1 false rfl (yi_le_f h344) ?_
                refine yi_D_retv rfl ?_
                exact ⟨_, rfl, hF338, Or.inr ⟨_, hx343, hz341, he335⟩⟩
              · refine yi_D_if2 true rfl (yi_ne_t h332) ?_
                refine yi_D_run 1 (125, [(2, .inl 1), (0, .inr (.inr (some 82))), (1, .inl (dp : Int))], [.inr (.inr (some 82))], (I, L, R, Y), 0, 0) (fun _ => rfl) ?_
                refine yi_D_gi (v := 0) rfl rfl rfl hf (fun _ => ?_)
                refine yi_D_if1 true rfl (by decide) ?_
                refine yi_D_run 2 (135, [(2, .inl 1), (0, .inr (.inr (some 82))), (1, .inl (dp : Int))], [.inl 26, .inr (.inr (some 82))], (I, L, R, Y), 0, 0) (fun _ => rfl) ?_
                refine yi_D_callv rfl (q_hasWord_z (by omega) (by omega) hW hf hA) ?_
                rintro _ (⟨c345, I346, rfl, hGa347, hf348, hA349⟩ | ⟨c350, I351, rfl, hGa352, hf353, hA354⟩)
                · exfalso; omega
                · have hA354 : mt_A I351 te a := hA354
                  have hW355 := mt_W_t hW (mt_G_F hGa352)
                  have hF356 := (mt_G_F hGa352)
                  have hG357 := hGa352
                  have hmc358 := mc_G hm hGa352
                  show yi_D zi_Ms d zi_m97 k (138, [(2, .inl 1), (0, .inr (.inr (some 82))), (1, .inl (dp : Int))], [.inl 0], (I351, L, R, Y), 0, 0) _
                  refine yi_D_if1 true rfl (by decide) ?_
                  refine yi_D_run 2 (160, [(2, .inl 1), (0, .inr (.inr (some 82))), (1, .inl (dp : Int))], [.inl 40, .inr (.inr (some 82))], (I351, L, R, Y), 0, 0) (fun _ => rfl) ?_
                  refine yi_D_callv rfl (q_hasSign_z (by omega) hW355 hf353 hA354) ?_
                  rintro _ (⟨c359, I360, rfl, hGa361, hf362, hA363⟩ | ⟨c364, I365, rfl, hGa366, hf367, hA368⟩)
                  · exfalso; omega
                  · have hA368 : mt_A I365 te a := hA368
                    have hW369 := mt_W_t hW355 (mt_G_F hGa366)
                    have hF370 := mt_F_t hF356 (mt_G_F hGa366)
                    have hG371 := mt_G_t hG357 hGa366
                    have hmc372 := mc_G hmc358 hGa366
                    show yi_D zi_Ms d zi_m97 k (163, [(2, .inl 1), (0, .inr (.inr (some 82))), (1, .inl (dp : Int))], [.inl 0], (I365, L, R, Y), 0, 0) _
                    refine yi_D_if1 true rfl (by decide) ?_
                    refine yi_D_run 3 (186, [(2, .inl 1), (0, .inr (.inr (some 82))), (1, .inl (dp : Int))], [.inr (.inr (some 82)), .inl 11, .inr (.inr (some 82))], (I365, L, R, Y), 0, 0) (fun _ => rfl) ?_
                    refine yi_D_callv rfl (q_readClauseC hW369 hf367 hA368 (by omega) (by omega) hmc372) ?_
                    rintro _ ⟨z374, I373, rfl, hGc375, (⟨a376, hs377, hf378, hA379⟩ | ⟨f380, hs377, hz381, he382⟩)⟩
                    · have hW383 := mt_W_t hW369 (mt_G_F hGc375)
                      have hF384 := mt_F_t hF370 (mt_G_F hGc375)
                      have hG385 := mt_G_t hG371 hGc375
                      have hmc386 := mc_G hmc372 hGc375
                      have hR387 : sp_R K P V (3, a, dp, sk, ld, nm, cs) (.inl (4, a376, dp, sk, ld, nm, cs ++ [(11, z374)])) := sp_R_1 (by
                        show sp_item K P V a dp sk ld nm cs = _
                        unfold sp_item
                        (repeat (first | rw [if_pos (by omega)] | rw [if_neg (by omega)]))
                        rw [hs377])
                      have lt388 : a < a376 := sp_cl_lt hs377
                      show yi_D zi_Ms d zi_m97 k (189, [(2, .inl 1), (0, .inr (.inr (some 82))), (1, .inl (dp : Int))], [.inl z374, .inl 11, .inr (.inr (some 82))], (I373, L, R, Y), 0, 0) _
                      refine yi_D_callv rfl (q_emitC hW383 hmc386) ?_
                      rintro _ ⟨I389, rfl, hE390, hmc391⟩
                      have hW392 := mt_W_t hW383 (mt_E_F hE390)
                      have hF393 := mt_F_t hF384 (mt_E_F hE390)
                      have hf394 : I389 82 8 = 0 := (hE390.1 82 8 (by omega)).trans hf378
                      have hA395 : mt_A I389 te a376 := ⟨(hE390.1 82 7 (by omega)).trans hA379.1, hA379.2⟩
                      have hwf396 : wfX pF (11 - 2 * dp) cs (cs ++ [(11, z374)]) := wfX_1 (by omega) (Or.inr (Or.inr rfl)) pF_11
                      show yi_D zi_Ms d zi_m97 k (192, [(2, .inl 1), (0, .inr (.inr (some 82))), (1, .inl (dp : Int))], [], (I389, L, R, Y), 0, 0) _
                      refine yi_D_retv rfl ?_
                      exact ⟨_, rfl, hF393, Or.inl ⟨_, _, hR387, by omega, hf394, hA395, hmc391, hwf396⟩⟩
                    · have hW397 := mt_W_t hW369 (mt_G_F hGc375)
                      have hF398 := mt_F_t hF370 (mt_G_F hGc375)
                      have hG399 := mt_G_t hG371 hGc375
                      have hmc400 := mc_G hmc372 hGc375
                      have hn401 : 0 < I373 82 8 := by rw [he382]; exact hz381
                      have hx402 : sp_R K P V (3, a, dp, sk, ld, nm, cs) (.inr f380) := sp_R_1 (by
                        show sp_item K P V a dp sk ld nm cs = _
                        unfold sp_item
                        (repeat (first | rw [if_pos (by omega)] | rw [if_neg (by omega)]))
                        rw [hs377])
                      show yi_D zi_Ms d zi_m97 k (189, [(2, .inl 1), (0, .inr (.inr (some 82))), (1, .inl (dp : Int))], [.inl z374, .inl 11, .inr (.inr (some 82))], (I373, L, R, Y), 0, 0) _
                      refine yi_D_callv rfl (q_emit hW397) ?_
                      rintro _ ⟨I403, rfl, hE404⟩
                      have hW405 := mt_W_t hW397 (mt_E_F hE404)
                      have hF406 := mt_F_t hF398 (mt_E_F hE404)
                      have hf407 : 0 < I403 82 8 := by rw [hE404.1 82 8 (by omega)]; exact hn401
                      have he408 := (hE404.1 82 8 (by omega)).trans he382
                      show yi_D zi_Ms d zi_m97 k (192, [(2, .inl 1), (0, .inr (.inr (some 82))), (1, .inl (dp : Int))], [], (I403, L, R, Y), 0, 0) _
                      refine yi_D_retv rfl ?_
                      exact ⟨_, rfl, hF406, Or.inr ⟨_, hx402, hz381, he408⟩⟩
          · show yi_D zi_Ms d zi_m97 k (48, [(0, .inr (.inr (some 82))), (1, .inl (dp : Int))], [.inl 0], (I, L, R, Y), 0, 0) _
            refine yi_D_if1 false rfl (by decide) ?_
            refine yi_D_run 2 (54, [(0, .inr (.inr (some 82))), (1, .inl (dp : Int))], [.inl 26, .inr (.inr (some 82))], (I, L, R, Y), 0, 0) (fun _ => rfl) ?_
            refine yi_D_callv rfl (q_isWord_z (by omega) (by omega) hW hf hA) ?_
            rintro _ (⟨c409, rfl⟩ | ⟨c409, rfl⟩)
            · show yi_D zi_Ms d zi_m97 k (57, [(0, .inr (.inr (some 82))), (1, .inl (dp : Int))], [.inl 1], (I, L, R, Y), 0, 0) _
              refine yi_D_if1 true rfl (by decide) ?_
              refine yi_D_run 4 (76, [(2, .inl 1), (0, .inr (.inr (some 82))), (1, .inl (dp : Int))], [.inl 1], (I, L, R, Y), 0, 0) (fun _ => rfl) ?_
              refine yi_D_if1 true rfl (by decide) ?_
              refine yi_D_run 1 (88, [(2, .inl 1), (0, .inr (.inr (some 82))), (1, .inl (dp : Int))], [.inr (.inr (some 82))], (I, L, R, Y), 0, 0) (fun _ => rfl) ?_
              refine yi_D_callv rfl (q_isName_z hW hf hA) ?_
              rintro _ (⟨c410, rfl⟩ | ⟨c410, rfl⟩)
              · exfalso; omega
              · show yi_D zi_Ms d zi_m97 k (91, [(2, .inl 1), (0, .inr (.inr (some 82))), (1, .inl (dp : Int))], [.inl 0], (I, L, R, Y), 0, 0) _
                refine yi_D_if1 true rfl (by decide) ?_
                refine yi_D_run 2 (116, [(2, .inl 1), (0, .inr (.inr (some 82))), (1, .inl (dp : Int))], [.inl 5, .inl (dp : Int)], (I, L, R, Y), 0, 0) (fun _ => rfl) ?_
                by_cases h411 : (dp : Int) = 5
                · refine yi_D_if2 false rfl (yi_ne_f h411) ?_
                  refine yi_D_run 2 (121, [(2, .inl 1), (0, .inr (.inr (some 82))), (1, .inl (dp : Int))], [.inl 5, .inr (.inr (some 82))], (I, L, R, Y), 0, 0) (fun _ => rfl) ?_
                  refine yi_D_callv rfl (q_wrong_z ⟨by omega, by omega⟩ hW hf hA) ?_
                  rintro _ ⟨I412, rfl, hg413, he414⟩
                  have hGw415 : mt_G I I412 := fun p k hp => hg413 p k (by omega)
                  have hW416 := mt_W_t hW (mt_G_F hGw415)
                  have hF417 := (mt_G_F hGw415)
                  have hG418 := hGw415
                  have hmc419 := mc_G hm hGw415
                  have hz420 : 0 < sp_f P a 5 := mt_f_ne hW hA.2 (by omega)
                  have hn421 : 0 < I412 82 8 := by rw [he414]; exact hz420
                  have hx422 : sp_R K P V (3, a, dp, sk, ld, nm, cs) (.inr (sp_f P a 5)) := sp_R_1 (by
                    show sp_item K P V a dp sk ld nm cs = _
                    first
                    | (exfalso; omega)
                    | (unfold sp_item; (repeat (first | rw [if_pos (by omega)] | rw [if_neg (by omega)])); done))
                  show yi_D zi_Ms d zi_m97 k (124, [(2, .inl 1), (0, .inr (.inr (some 82))), (1, .inl (dp : Int))], [], (I412, L, R, Y), 0, 0) _
                  refine yi_D_run 1 (125, [(2, .inl 1), (0, .inr (.inr (some 82))), (1, .inl (dp : Int))], [.inr (.inr (some 82))], (I412, L, R, Y), 0, 0) (fun _ => rfl) ?_
                  refine yi_D_gi (v := I412 82 8) rfl rfl rfl rfl (fun _ => ?_)
                  have h423 : ¬ ((I412 82 8) ≤ 0) := by omega
                  refine yi_D_if1 false rfl (yi_le_f h423) ?_
                  refine yi_D_retv rfl ?_
                  exact ⟨_, rfl, hF417, Or.inr ⟨_, hx422, hz420, he414⟩⟩
                · refine yi_D_if2 true rfl (yi_ne_t h411) ?_
                  refine yi_D_run 1 (125, [(2, .inl 1), (0, .inr (.inr (some 82))), (1, .inl (dp : Int))], [.inr (.inr (some 82))], (I, L, R, Y), 0, 0) (fun _ => rfl) ?_
                  refine yi_D_gi (v := 0) rfl rfl rfl hf (fun _ => ?_)
                  refine yi_D_if1 true rfl (by decide) ?_
                  refine yi_D_run 2 (135, [(2, .inl 1), (0, .inr (.inr (some 82))), (1, .inl (dp : Int))], [.inl 26, .inr (.inr (some 82))], (I, L, R, Y), 0, 0) (fun _ => rfl) ?_
                  refine yi_D_callv rfl (q_hasWord_z (by omega) (by omega) hW hf hA) ?_
                  rintro _ (⟨c424, I425, rfl, hGa426, hf427, hA428⟩ | ⟨c429, I430, rfl, hGa431, hf432, hA433⟩)
                  · have hA428 : mt_A I425 te (a + 1) := hA428
                    have hW434 := mt_W_t hW (mt_G_F hGa426)
                    have hF435 := (mt_G_F hGa426)
                    have hG436 := hGa426
                    have hmc437 := mc_G hm hGa426
                    show yi_D zi_Ms d zi_m97 k (138, [(2, .inl 1), (0, .inr (.inr (some 82))), (1, .inl (dp : Int))], [.inl 1], (I425, L, R, Y), 0, 0) _
                    refine yi_D_if1 false rfl (by decide) ?_
                    refine yi_D_run 3 (144, [(2, .inl 1), (0, .inr (.inr (some 82))), (1, .inl (dp : Int))], [.inl 1, .inl (dp : Int), .inr (.inr (some 82))], (I425, L, R, Y), 0, 0) (fun _ => rfl) ?_
                    refine yi_D_iadd rfl ((dp : Int) + 1) (yi_wn (by omega) (by omega)) ?_
                    have hst438 : sp_R K P V (3, a, dp, sk, ld, nm, cs) (.inl (3, a + 1, dp + 1, 0 :: sk, ld, nm, cs)) := sp_R_1 (by
                      show sp_item K P V a dp sk ld nm cs = _
                      first
                      | (exfalso; omega)
                      | (unfold sp_item; (repeat (first | rw [if_pos (by omega)] | rw [if_neg (by omega)])); done))
                    refine yi_D_callv rfl (hRI (dp + 1) (0 :: sk) cs hW434 hf427 hA428 (by omega) hmc437) ?_
                    rintro _ ⟨I439, rfl, hFr440, (⟨a441, cs442, hR443, lt444, hf445, hA446, hmc447, hwf448⟩ | ⟨f449, hR450, hz451, he452⟩)⟩
                    · have hW453 := mt_W_t hW434 hFr440
                      have hF454 := mt_F_t hF435 hFr440
                      have hR455 : sp_R K P V (3, a, dp, sk, ld, nm, cs) (.inl (4, a441, dp, sk, ld, nm, cs442 ++ [(3, 0)])) := sp_R_s (sp_R_t hst438 hR443) rfl
                      have hwf456 : wfX pF (11 - 2 * dp) cs cs442 := wfX_m hwf448 (by omega)
                      show yi_D zi_Ms d zi_m97 k (148, [(2, .inl 1), (0, .inr (.inr (some 82))), (1, .inl (dp : Int))], [], (I439, L, R, Y), 0, 0) _
                      refine yi_D_run 3 (151, [(2, .inl 1), (0, .inr (.inr (some 82))), (1, .inl (dp : Int))], [.inl 0, .inl 3, .inr (.inr (some 82))], (I439, L, R, Y), 0, 0) (fun _ => rfl) ?_
                      refine yi_D_callv rfl (q_emitC hW453 hmc447) ?_
                      rintro _ ⟨I457, rfl, hE458, hmc459⟩
                      have hW460 := mt_W_t hW453 (mt_E_F hE458)
                      have hF461 := mt_F_t hF454 (mt_E_F hE458)
                      have hf462 : I457 82 8 = 0 := (hE458.1 82 8 (by omega)).trans hf445
                      have hA463 : mt_A I457 te a441 := ⟨(hE458.1 82 7 (by omega)).trans hA446.1, hA446.2⟩
                      have hwf464 : wfX pF (11 - 2 * dp) cs (cs442 ++ [(3, 0)]) := wfX_3 hwf456 (by omega) pF_3
                      show yi_D zi_Ms d zi_m97 k (154, [(2, .inl 1), (0, .inr (.inr (some 82))), (1, .inl (dp : Int))], [], (I457, L, R, Y), 0, 0) _
                      refine yi_D_run 1 (192, [(2, .inl 1), (0, .inr (.inr (some 82))), (1, .inl (dp : Int))], [], (I457, L, R, Y), 0, 0) (fun _ => rfl) ?_
                      refine yi_D_retv rfl ?_
                      exact ⟨_, rfl, hF461, Or.inl ⟨_, _, hR455, by omega, hf462, hA463, hmc459, hwf464⟩⟩
                    · have hW465 := mt_W_t hW434 hFr440
                      have hF466 := mt_F_t hF435 hFr440
                      have hn467 : 0 < I439 82 8 := by rw [he452]; exact hz451
                      have hx468 : sp_R K P V (3, a, dp, sk, ld, nm, cs) (.inr f449) := sp_R_t hst438 hR450
                      show yi_D zi_Ms d zi_m97 k (148, [(2, .inl 1), (0, .inr (.inr (some 82))), (1, .inl (dp : Int))], [], (I439, L, R, Y), 0, 0) _
                      refine yi_D_run 3 (151, [(2, .inl 1), (0, .inr (.inr (some 82))), (1, .inl (dp : Int))], [.inl 0, .inl 3, .inr (.inr (some 82))], (I439, L, R, Y), 0, 0) (fun _ => rfl) ?_
                      refine yi_D_callv rfl (q_emit hW465) ?_
                      rintro _ ⟨I469, rfl, hE470⟩
                      have hW471 := mt_W_t hW465 (mt_E_F hE470)
                      have hF472 := mt_F_t hF466 (mt_E_F hE470)
                      have hf473 : 0 < I469 82 8 := by rw [hE470.1 82 8 (by omega)]; exact hn467
                      have he474 := (hE470.1 82 8 (by omega)).trans he452
                      show yi_D zi_Ms d zi_m97 k (154, [(2, .inl 1), (0, .inr (.inr (some 82))), (1, .inl (dp : Int))], [], (I469, L, R, Y), 0, 0) _
                      refine yi_D_run 1 (192, [(2, .inl 1), (0, .inr (.inr (some 82))), (1, .inl (dp : Int))], [], (I469, L, R, Y), 0, 0) (fun _ => rfl) ?_
                      refine yi_D_retv rfl ?_
                      exact ⟨_, rfl, hF472, Or.inr ⟨_, hx468, hz451, he474⟩⟩
                  · exfalso; omega
            · show yi_D zi_Ms d zi_m97 k (57, [(0, .inr (.inr (some 82))), (1, .inl (dp : Int))], [.inl 0], (I, L, R, Y), 0, 0) _
              refine yi_D_if1 false rfl (by decide) ?_
              refine yi_D_run 2 (63, [(0, .inr (.inr (some 82))), (1, .inl (dp : Int))], [.inl 40, .inr (.inr (some 82))], (I, L, R, Y), 0, 0) (fun _ => rfl) ?_
              refine yi_D_callv rfl (q_isSign_z (by omega) hW hf hA) ?_
              rintro _ (⟨c475, rfl⟩ | ⟨c475, rfl⟩)
              · show yi_D zi_Ms d zi_m97 k (66, [(0, .inr (.inr (some 82))), (1, .inl (dp : Int))], [.inl 1], (I, L, R, Y), 0, 0) _
                refine yi_D_if1 false rfl (by decide) ?_
                refine yi_D_run 4 (76, [(2, .inl 1), (0, .inr (.inr (some 82))), (1, .inl (dp : Int))], [.inl 1], (I, L, R, Y), 0, 0) (fun _ => rfl) ?_
                refine yi_D_if1 true rfl (by decide) ?_
                refine yi_D_run 1 (88, [(2, .inl 1), (0, .inr (.inr (some 82))), (1, .inl (dp : Int))], [.inr (.inr (some 82))], (I, L, R, Y), 0, 0) (fun _ => rfl) ?_
                refine yi_D_callv rfl (q_isName_z hW hf hA) ?_
                rintro _ (⟨c476, rfl⟩ | ⟨c476, rfl⟩)
                · exfalso; omega
                · show yi_D zi_Ms d zi_m97 k (91, [(2, .inl 1), (0, .inr (.inr (some 82))), (1, .inl (dp : Int))], [.inl 0], (I, L, R, Y), 0, 0) _
                  refine yi_D_if1 true rfl (by decide) ?_
                  refine yi_D_run 2 (116, [(2, .inl 1), (0, .inr (.inr (some 82))), (1, .inl (dp : Int))], [.inl 5, .inl (dp : Int)], (I, L, R, Y), 0, 0) (fun _ => rfl) ?_
                  by_cases h477 : (dp : Int) = 5
                  · refine yi_D_if2 false rfl (yi_ne_f h477) ?_
                    refine yi_D_run 2 (121, [(2, .inl 1), (0, .inr (.inr (some 82))), (1, .inl (dp : Int))], [.inl 5, .inr (.inr (some 82))], (I, L, R, Y), 0, 0) (fun _ => rfl) ?_
                    refine yi_D_callv rfl (q_wrong_z ⟨by omega, by omega⟩ hW hf hA) ?_
                    rintro _ ⟨I478, rfl, hg479, he480⟩
                    have hGw481 : mt_G I I478 := fun p k hp => hg479 p k (by omega)
                    have hW482 := mt_W_t hW (mt_G_F hGw481)
                    have hF483 := (mt_G_F hGw481)
                    have hG484 := hGw481
                    have hmc485 := mc_G hm hGw481
                    have hz486 : 0 < sp_f P a 5 := mt_f_ne hW hA.2 (by omega)
                    have hn487 : 0 < I478 82 8 := by rw [he480]; exact hz486
                    have hx488 : sp_R K P V (3, a, dp, sk, ld, nm, cs) (.inr (sp_f P a 5)) := sp_R_1 (by
                      show sp_item K P V a dp sk ld nm cs = _
                      first
                      | (exfalso; omega)
                      | (unfold sp_item; (repeat (first | rw [if_pos (by omega)] | rw [if_neg (by omega)])); done))
                    show yi_D zi_Ms d zi_m97 k (124, [(2, .inl 1), (0, .inr (.inr (some 82))), (1, .inl (dp : Int))], [], (I478, L, R, Y), 0, 0) _
                    refine yi_D_run 1 (125, [(2, .inl 1), (0, .inr (.inr (some 82))), (1, .inl (dp : Int))], [.inr (.inr (some 82))], (I478, L, R, Y), 0, 0) (fun _ => rfl) ?_
                    refine yi_D_gi (v := I478 82 8) rfl rfl rfl rfl (fun _ => ?_)
                    have h489 : ¬ ((I478 82 8) ≤ 0) := by omega
                    refine yi_D_if1 false rfl (yi_le_f h489) ?_
                    refine yi_D_retv rfl ?_
                    exact ⟨_, rfl, hF483, Or.inr ⟨_, hx488, hz486, he480⟩⟩
                  · refine yi_D_if2 true rfl (yi_ne_t h477) ?_
                    refine yi_D_run 1 (125, [(2, .inl 1), (0, .inr (.inr (some 82))), (1, .inl (dp : Int))], [.inr (.inr (some 82))], (I, L, R, Y), 0, 0) (fun _ => rfl) ?_
                    refine yi_D_gi (v := 0) rfl rfl rfl hf (fun _ => ?_)
                    refine yi_D_if1 true rfl (by decide) ?_
                    refine yi_D_run 2 (135, [(2, .inl 1), (0, .inr (.inr (some 82))), (1, .inl (dp : Int))], [.inl 26, .inr (.inr (some 82))], (I, L, R, Y), 0, 0) (fun _ => rfl) ?_
                    refine yi_D_callv rfl (q_hasWord_z (by omega) (by omega) hW hf hA) ?_
                    rintro _ (⟨c490, I491, rfl, hGa492, hf493, hA494⟩ | ⟨c495, I496, rfl, hGa497, hf498, hA499⟩)
                    · exfalso; omega
                    · have hA499 : mt_A I496 te a := hA499
                      have hW500 := mt_W_t hW (mt_G_F hGa497)
                      have hF501 := (mt_G_F hGa497)
                      have hG502 := hGa497
                      have hmc503 := mc_G hm hGa497
                      show yi_D zi_Ms d zi_m97 k (138, [(2, .inl 1), (0, .inr (.inr (some 82))), (1, .inl (dp : Int))], [.inl 0], (I496, L, R, Y), 0, 0) _
                      refine yi_D_if1 true rfl (by decide) ?_
                      refine yi_D_run 2 (160, [(2, .inl 1), (0, .inr (.inr (some 82))), (1, .inl (dp : Int))], [.inl 40, .inr (.inr (some 82))], (I496, L, R, Y), 0, 0) (fun _ => rfl) ?_
                      refine yi_D_callv rfl (q_hasSign_z (by omega) hW500 hf498 hA499) ?_
                      rintro _ (⟨c504, I505, rfl, hGa506, hf507, hA508⟩ | ⟨c509, I510, rfl, hGa511, hf512, hA513⟩)
                      · have hA508 : mt_A I505 te (a + 1) := hA508
                        have hW514 := mt_W_t hW500 (mt_G_F hGa506)
                        have hF515 := mt_F_t hF501 (mt_G_F hGa506)
                        have hG516 := mt_G_t hG502 hGa506
                        have hmc517 := mc_G hmc503 hGa506
                        show yi_D zi_Ms d zi_m97 k (163, [(2, .inl 1), (0, .inr (.inr (some 82))), (1, .inl (dp : Int))], [.inl 1], (I505, L, R, Y), 0, 0) _
                        refine yi_D_if1 false rfl (by decide) ?_
                        refine yi_D_run 3 (169, [(2, .inl 1), (0, .inr (.inr (some 82))), (1, .inl (dp : Int))], [.inl 1, .inl (dp : Int), .inr (.inr (some 82))], (I505, L, R, Y), 0, 0) (fun _ => rfl) ?_
                        refine yi_D_iadd rfl ((dp : Int) + 1) (yi_wn (by omega) (by omega)) ?_
                        have hst518 : sp_R K P V (3, a, dp, sk, ld, nm, cs) (.inl (3, a + 1, dp + 1, 10 :: 1 :: sk, ld, nm, cs)) := sp_R_1 (by
                          show sp_item K P V a dp sk ld nm cs = _
                          first
                          | (exfalso; omega)
                          | (unfold sp_item; (repeat (first | rw [if_pos (by omega)] | rw [if_neg (by omega)])); done))
                        refine yi_D_callv rfl (hRF (dp + 1) (1 :: sk) cs hW514 hf507 hA508 (by omega) hmc517) ?_
                        rintro _ ⟨I519, rfl, hFr520, (⟨a521, cs522, hR523, lt524, hf525, hA526, hmc527, hwf528⟩ | ⟨f529, hR530, hz531, he532⟩)⟩
                        · have hW533 := mt_W_t hW514 hFr520
                          have hF534 := mt_F_t hF515 hFr520
                          have hR535 := sp_R_t hst518 hR523
                          have hwf536 : wfX pF (11 - 2 * dp) cs cs522 := wfX_m hwf528 (by omega)
                          show yi_D zi_Ms d zi_m97 k (173, [(2, .inl 1), (0, .inr (.inr (some 82))), (1, .inl (dp : Int))], [], (I519, L, R, Y), 0, 0) _
                          refine yi_D_run 2 (176, [(2, .inl 1), (0, .inr (.inr (some 82))), (1, .inl (dp : Int))], [.inl 41, .inr (.inr (some 82))], (I519, L, R, Y), 0, 0) (fun _ => rfl) ?_
                          refine yi_D_callv rfl (q_takeSign_z (by omega) hW533 hf525 hA526) ?_
                          rintro _ (⟨c537, I538, rfl, hGa539, hf540, hA541⟩ | ⟨c542, I543, rfl, hGa544, he545⟩)
                          · have hA541 : mt_A I538 te (a521 + 1) := hA541
                            have hW546 := mt_W_t hW533 (mt_G_F hGa539)
                            have hF547 := mt_F_t hF534 (mt_G_F hGa539)
                            have hmc548 := mc_G hmc527 hGa539
                            have hR549 : sp_R K P V (3, a, dp, sk, ld, nm, cs) (.inl (4, a521 + 1, dp, sk, ld, nm, cs522)) := sp_R_s hR535 (by
                              show (if K _ = 41 then _ else _) = _
                              rw [if_pos (by omega)]
                              rfl)
                            show yi_D zi_Ms d zi_m97 k (179, [(2, .inl 1), (0, .inr (.inr (some 82))), (1, .inl (dp : Int))], [], (I538, L, R, Y), 0, 0) _
                            refine yi_D_run 1 (192, [(2, .inl 1), (0, .inr (.inr (some 82))), (1, .inl (dp : Int))], [], (I538, L, R, Y), 0, 0) (fun _ => rfl) ?_
                            refine yi_D_retv rfl ?_
                            exact ⟨_, rfl, hF547, Or.inl ⟨_, _, hR549, by omega, hf540, hA541, hmc548, hwf536⟩⟩
                          · have hW550 := mt_W_t hW533 (mt_G_F hGa544)
                            have hF551 := mt_F_t hF534 (mt_G_F hGa544)
                            have hmc552 := mc_G hmc527 hGa544
                            have hz553 : 0 < sp_f P a521 1 := mt_f_ne hW533 hA526.2 (by omega)
                            have hn554 : 0 < I543 82 8 := by rw [he545]; exact hz553
                            have hx555 : sp_R K P V (3, a, dp, sk, ld, nm, cs) (.inr (sp_f P a521 1)) := sp_R_s hR535 (by
                              show (if K _ = _ then _ else _) = _
                              rw [if_neg (by omega)])
                            show yi_D zi_Ms d zi_m97 k (179, [(2, .inl 1), (0, .inr (.inr (some 82))), (1, .inl (dp : Int))], [], (I543, L, R, Y), 0, 0) _
                            refine yi_D_run 1 (192, [(2, .inl 1), (0, .inr (.inr (some 82))), (1, .inl (dp : Int))], [], (I543, L, R, Y), 0, 0) (fun _ => rfl) ?_
                            refine yi_D_retv rfl ?_
                            exact ⟨_, rfl, hF551, Or.inr ⟨_, hx555, hz553, he545⟩⟩
                        · have hW556 := mt_W_t hW514 hFr520
                          have hF557 := mt_F_t hF515 hFr520
                          have hn558 : 0 < I519 82 8 := by rw [he532]; exact hz531
                          have hx559 : sp_R K P V (3, a, dp, sk, ld, nm, cs) (.inr f529) := sp_R_t hst518 hR530
                          show yi_D zi_Ms d zi_m97 k (173, [(2, .inl 1), (0, .inr (.inr (some 82))), (1, .inl (dp : Int))], [], (I519, L, R, Y), 0, 0) _
                          refine yi_D_run 2 (176, [(2, .inl 1), (0, .inr (.inr (some 82))), (1, .inl (dp : Int))], [.inl 41, .inr (.inr (some 82))], (I519, L, R, Y), 0, 0) (fun _ => rfl) ?_
                          refine yi_D_callv rfl (q_takeSign_f hW556 hn558) ?_
                          rintro _ rfl
                          show yi_D zi_Ms d zi_m97 k (179, [(2, .inl 1), (0, .inr (.inr (some 82))), (1, .inl (dp : Int))], [], (I519, L, R, Y), 0, 0) _
                          refine yi_D_run 1 (192, [(2, .inl 1), (0, .inr (.inr (some 82))), (1, .inl (dp : Int))], [], (I519, L, R, Y), 0, 0) (fun _ => rfl) ?_
                          refine yi_D_retv rfl ?_
                          exact ⟨_, rfl, hF557, Or.inr ⟨_, hx559, hz531, he532⟩⟩
                      · exfalso; omega
              · show yi_D zi_Ms d zi_m97 k (66, [(0, .inr (.inr (some 82))), (1, .inl (dp : Int))], [.inl 0], (I, L, R, Y), 0, 0) _
                refine yi_D_if1 true rfl (by decide) ?_
                refine yi_D_run 3 (76, [(2, .inl 0), (0, .inr (.inr (some 82))), (1, .inl (dp : Int))], [.inl 0], (I, L, R, Y), 0, 0) (fun _ => rfl) ?_
                refine yi_D_if1 false rfl (by decide) ?_
                refine yi_D_run 2 (81, [(2, .inl 0), (0, .inr (.inr (some 82))), (1, .inl (dp : Int))], [.inl 1, .inr (.inr (some 82))], (I, L, R, Y), 0, 0) (fun _ => rfl) ?_
                refine yi_D_callv rfl (q_wrong_z ⟨by omega, by omega⟩ hW hf hA) ?_
                rintro _ ⟨I560, rfl, hg561, he562⟩
                have hGw563 : mt_G I I560 := fun p k hp => hg561 p k (by omega)
                have hW564 := mt_W_t hW (mt_G_F hGw563)
                have hF565 := (mt_G_F hGw563)
                have hG566 := hGw563
                have hmc567 := mc_G hm hGw563
                have hz568 : 0 < sp_f P a 1 := mt_f_ne hW hA.2 (by omega)
                have hn569 : 0 < I560 82 8 := by rw [he562]; exact hz568
                have hx570 : sp_R K P V (3, a, dp, sk, ld, nm, cs) (.inr (sp_f P a 1)) := sp_R_1 (by
                  show sp_item K P V a dp sk ld nm cs = _
                  first
                  | (exfalso; omega)
                  | (unfold sp_item; (repeat (first | rw [if_pos (by omega)] | rw [if_neg (by omega)])); done))
                show yi_D zi_Ms d zi_m97 k (84, [(2, .inl 0), (0, .inr (.inr (some 82))), (1, .inl (dp : Int))], [], (I560, L, R, Y), 0, 0) _
                refine yi_D_run 2 (125, [(2, .inl 0), (0, .inr (.inr (some 82))), (1, .inl (dp : Int))], [.inr (.inr (some 82))], (I560, L, R, Y), 0, 0) (fun _ => rfl) ?_
                refine yi_D_gi (v := I560 82 8) rfl rfl rfl rfl (fun _ => ?_)
                have h571 : ¬ ((I560 82 8) ≤ 0) := by omega
                refine yi_D_if1 false rfl (yi_le_f h571) ?_
                refine yi_D_retv rfl ?_
                exact ⟨_, rfl, hF565, Or.inr ⟨_, hx570, hz568, he562⟩⟩
theorem q_readTermC_s {d : Nat} {I L : Nat → Nat → Int} {R : Nat → Nat → Option Nat} {Y : (Nat → Nat) × (Nat → Nat) × Nat} (hRI : mt_RIC d) {K P V : Nat → Int} {te b a : Nat} {ld : Nat → Int} {nm : Int → Int} (hW : mt_W I L R Y K P V te b ld nm) (hf : I 82 8 = 0) (hA : mt_A I te a) (dp : Nat) (sk : List Nat) (cs : List (Int × Int)) (hd : dp ≤ 5) {gg : Nat → Int × Int} (hm : mc_S gg I cs) (ef : Nat) (hef : ef = 10 ∨ ef = 11) : yi_P zi_Ms (d + 1) 104 [.inr (.inr (some 82)), .inl (dp : Int)] (I, L, R, Y) (mt_QTC gg I L R Y K P V te (3, a, dp, (ef :: sk), ld, nm, cs) a dp sk ld nm ef cs) := by
  refine yi_P_s (M := zi_m104) rfl (fun k => ?_)
  have hS := hW.1
  have ht := hW.2.1.1
  have ha := hA.2
  have hp := hW.2.1.2.1 a hA.2
  show yi_D zi_Ms d zi_m104 k (0, [(0, .inr (.inr (some 82))), (1, .inl (dp : Int))], [], (I, L, R, Y), 0, 0) _
  refine yi_D_run 2 (2, [(0, .inr (.inr (some 82))), (1, .inl (dp : Int))], [.inl (dp : Int), .inr (.inr (some 82))], (I, L, R, Y), 0, 0) (fun _ => rfl) ?_
  refine yi_D_callv rfl (hRI dp (ef :: sk) cs hW hf hA (by omega) hm) ?_
  rintro _ ⟨I1, rfl, hFr2, (⟨a3, cs4, hR5, lt6, hf7, hA8, hmc9, hwf10⟩ | ⟨f11, hR12, hz13, he14⟩)⟩
  · have hW15 := mt_W_t hW hFr2
    have hF16 := hFr2
    have hR17 : sp_R K P V (3, a, dp, (ef :: sk), ld, nm, cs) (.inl (5, a3, dp, ef :: sk, ld, nm, cs4)) := sp_R_s hR5 (sp_st4a hef)
    have hwf18 : wfX pF (12 - 2 * dp) cs cs4 := wfX_m hwf10 (by omega)
    show yi_D zi_Ms d zi_m104 k (5, [(0, .inr (.inr (some 82))), (1, .inl (dp : Int))], [], (I1, L, R, Y), 0, 0) _
    have pt5 : ∀ j5, j5 ≤ k → ∀ (J1 : Nat → Nat → Int) (a1 : Nat) (cs1 : List (Int × Int)), (a < a1) → (mt_F I J1) → (J1 82 8 = 0) → (mt_A J1 te a1) → (sp_R K P V (3, a, dp, (ef :: sk), ld, nm, cs) (.inl (5, a1, dp, ef :: sk, ld, nm, cs1))) → (mc_S gg J1 cs1) → (wfX pF (12 - 2 * dp) cs cs1) → yi_D zi_Ms d zi_m104 j5 (5, [(0, .inr (.inr (some 82))), (1, .inl (dp : Int))], [], (J1, L, R, Y), 0, 0) (mt_QTC gg I L R Y K P V te (3, a, dp, (ef :: sk), ld, nm, cs) a dp sk ld nm ef cs) := by
      intro j5
      induction j5 with
      | zero => intros; exact yi_D_0
      | succ j5 ih5 =>
      intro hk5 J1 a1 cs1 lt9 hF9 hf9 hA9 hR9 hm9 hwf9
      have hW9 := mt_W_t hW hF9
      have hle9 := hA9.2
      have hte9 := hW.2.1.1
      refine yi_D_run1 1 (8, [(0, .inr (.inr (some 82))), (1, .inl (dp : Int))], [.inl 27, .inr (.inr (some 82))], (J1, L, R, Y), 0, 0) (fun _ => rfl) ?_
      refine yi_D_callv rfl (q_hasWord_z (by omega) (by omega) hW9 hf9 hA9) ?_
      rintro _ (⟨c19, I20, rfl, hGa21, hf22, hA23⟩ | ⟨c24, I25, rfl, hGa26, hf27, hA28⟩)
      · have hA23 : mt_A I20 te (a1 + 1) := hA23
        have hW29 := mt_W_t hW9 (mt_G_F hGa21)
        have hF30 := mt_F_t hF9 (mt_G_F hGa21)
        have hmc31 := mc_G hm9 hGa21
        show yi_D zi_Ms d zi_m104 j5 (11, [(0, .inr (.inr (some 82))), (1, .inl (dp : Int))], [.inl 1], (I20, L, R, Y), 0, 0) _
        refine yi_D_if1 false rfl (by decide) ?_
        refine yi_D_run 2 (16, [(0, .inr (.inr (some 82))), (1, .inl (dp : Int))], [.inl (dp : Int), .inr (.inr (some 82))], (I20, L, R, Y), 0, 0) (fun _ => rfl) ?_
        have hst32 : sp_R K P V (3, a, dp, (ef :: sk), ld, nm, cs) (.inl (3, a1 + 1, dp, (ef + 2) :: sk, ld, nm, cs1)) := sp_R_s hR9 (by
          show (if K a1 = 31 then _ else _) = _
          rw [if_pos (by omega)])
        refine yi_D_callv rfl (hRI dp ((ef + 2) :: sk) cs1 hW29 hf22 hA23 (by omega) hmc31) ?_
        rintro _ ⟨I33, rfl, hFr34, (⟨a35, cs36, hR37, lt38, hf39, hA40, hmc41, hwf42⟩ | ⟨f43, hR44, hz45, he46⟩)⟩
        · have hW47 := mt_W_t hW29 hFr34
          have hF48 := mt_F_t hF30 hFr34
          have hR49 : sp_R K P V (3, a, dp, (ef :: sk), ld, nm, cs) (.inl (5, a35, dp, ef :: sk, ld, nm, cs36 ++ [(9, 0)])) := sp_R_s (sp_R_t hst32 hR37) (sp_st4 hef)
          show yi_D zi_Ms d zi_m104 j5 (19, [(0, .inr (.inr (some 82))), (1, .inl (dp : Int))], [], (I33, L, R, Y), 0, 0) _
          refine yi_D_run 3 (23, [(0, .inr (.inr (some 82))), (1, .inl (dp : Int))], [.inl 0, .inl 9, .inr (.inr (some 82))], (I33, L, R, Y), 0, 0) (fun _ => rfl) ?_
          refine yi_D_callv rfl (q_emitC hW47 hmc41) ?_
          rintro _ ⟨I50, rfl, hE51, hmc52⟩
          have hW53 := mt_W_t hW47 (mt_E_F hE51)
          have hF54 := mt_F_t hF48 (mt_E_F hE51)
          have hf55 : I50 82 8 = 0 := (hE51.1 82 8 (by omega)).trans hf39
          have hA56 : mt_A I50 te a35 := ⟨(hE51.1 82 7 (by omega)).trans hA40.1, hA40.2⟩
          have hwf57 : wfX pF (12 - 2 * dp) cs (cs36 ++ [(9, 0)]) := wfX_2 hwf9 hwf42 (by omega) ⟨by omega, by omega⟩ pF_9
          show yi_D zi_Ms d zi_m104 j5 (26, [(0, .inr (.inr (some 82))), (1, .inl (dp : Int))], [], (I50, L, R, Y), 0, 0) _
          refine yi_D_run 1 (5, [(0, .inr (.inr (some 82))), (1, .inl (dp : Int))], [], (I50, L, R, Y), 0, 0) (fun _ => rfl) ?_
          exact yi_D_mono (ih5 (by omega) I50 a35 (cs36 ++ [(9, 0)]) (by omega) hF54 hf55 hA56 hR49 hmc52 hwf57) (by omega)
        · have hW58 := mt_W_t hW29 hFr34
          have hF59 := mt_F_t hF30 hFr34
          have hn60 : 0 < I33 82 8 := by rw [he46]; exact hz45
          have hx61 : sp_R K P V (3, a, dp, (ef :: sk), ld, nm, cs) (.inr f43) := sp_R_t hst32 hR44
          show yi_D zi_Ms d zi_m104 j5 (19, [(0, .inr (.inr (some 82))), (1, .inl (dp : Int))], [], (I33, L, R, Y), 0, 0) _
          refine yi_D_run 3 (23, [(0, .inr (.inr (some 82))), (1, .inl (dp : Int))], [.inl 0, .inl 9, .inr (.inr (some 82))], (I33, L, R, Y), 0, 0) (fun _ => rfl) ?_
          refine yi_D_callv rfl (q_emit hW58) ?_
          rintro _ ⟨I62, rfl, hE63⟩
          have hW64 := mt_W_t hW58 (mt_E_F hE63)
          have hF65 := mt_F_t hF59 (mt_E_F hE63)
          have hf66 : 0 < I62 82 8 := by rw [hE63.1 82 8 (by omega)]; exact hn60
          have he67 := (hE63.1 82 8 (by omega)).trans he46
          show yi_D zi_Ms d zi_m104 j5 (26, [(0, .inr (.inr (some 82))), (1, .inl (dp : Int))], [], (I62, L, R, Y), 0, 0) _
          refine yi_D_run 1 (5, [(0, .inr (.inr (some 82))), (1, .inl (dp : Int))], [], (I62, L, R, Y), 0, 0) (fun _ => rfl) ?_
          refine yi_D_run 2 (8, [(0, .inr (.inr (some 82))), (1, .inl (dp : Int))], [.inl 27, .inr (.inr (some 82))], (I62, L, R, Y), 0, 0) (fun _ => rfl) ?_
          refine yi_D_callv rfl (q_hasWord_f hW64 hf66) ?_
          rintro _ ⟨I68, rfl, hGa69, hq70⟩
          have hW71 := mt_W_t hW64 (mt_G_F hGa69)
          have hF72 := mt_F_t hF65 (mt_G_F hGa69)
          have hf73 : 0 < I68 82 8 := by rw [hq70]; exact hf66
          have he74 := hq70.trans he67
          show yi_D zi_Ms d zi_m104 j5 (11, [(0, .inr (.inr (some 82))), (1, .inl (dp : Int))], [.inl 0], (I68, L, R, Y), 0, 0) _
          refine yi_D_if1 true rfl (by decide) ?_
          refine yi_D_retv rfl ?_
          exact ⟨_, rfl, hF72, Or.inr ⟨_, hx61, hz45, he74⟩⟩
      · have hA28 : mt_A I25 te a1 := hA28
        have hW75 := mt_W_t hW9 (mt_G_F hGa26)
        have hF76 := mt_F_t hF9 (mt_G_F hGa26)
        have hmc77 := mc_G hm9 hGa26
        show yi_D zi_Ms d zi_m104 j5 (11, [(0, .inr (.inr (some 82))), (1, .inl (dp : Int))], [.inl 0], (I25, L, R, Y), 0, 0) _
        refine yi_D_if1 true rfl (by decide) ?_
        refine yi_D_retv rfl ?_
        have hst6 : sp_R K P V (3, a, dp, (ef :: sk), ld, nm, cs) (.inl (6, a1, dp, sk, ld, nm, if ef = 11 then cs1 ++ [(10, 0)] else cs1)) := sp_R_s hR9 (by
          show (if K a1 = 31 then _ else _) = _
          rw [if_neg (by omega)])
        exact ⟨_, rfl, hF76, Or.inl ⟨_, _, hst6, by omega, hf27, hA28, hmc77, hwf9⟩⟩
    exact pt5 k (Nat.le_refl _) I1 a3 cs4 (by omega) hF16 hf7 hA8 hR17 hmc9 hwf18
  · have hW78 := mt_W_t hW hFr2
    have hF79 := hFr2
    have hn80 : 0 < I1 82 8 := by rw [he14]; exact hz13
    have hx81 : sp_R K P V (3, a, dp, (ef :: sk), ld, nm, cs) (.inr f11) := hR12
    show yi_D zi_Ms d zi_m104 k (5, [(0, .inr (.inr (some 82))), (1, .inl (dp : Int))], [], (I1, L, R, Y), 0, 0) _
    refine yi_D_run 2 (8, [(0, .inr (.inr (some 82))), (1, .inl (dp : Int))], [.inl 27, .inr (.inr (some 82))], (I1, L, R, Y), 0, 0) (fun _ => rfl) ?_
    refine yi_D_callv rfl (q_hasWord_f hW78 hn80) ?_
    rintro _ ⟨I82, rfl, hGa83, hq84⟩
    have hW85 := mt_W_t hW78 (mt_G_F hGa83)
    have hF86 := mt_F_t hF79 (mt_G_F hGa83)
    have hf87 : 0 < I82 82 8 := by rw [hq84]; exact hn80
    have he88 := hq84.trans he14
    show yi_D zi_Ms d zi_m104 k (11, [(0, .inr (.inr (some 82))), (1, .inl (dp : Int))], [.inl 0], (I82, L, R, Y), 0, 0) _
    refine yi_D_if1 true rfl (by decide) ?_
    refine yi_D_retv rfl ?_
    exact ⟨_, rfl, hF86, Or.inr ⟨_, hx81, hz13, he88⟩⟩
theorem q_readFormulaC_s {d : Nat} {I L : Nat → Nat → Int} {R : Nat → Nat → Option Nat} {Y : (Nat → Nat) × (Nat → Nat) × Nat} (hRT : mt_RTC d) {K P V : Nat → Int} {te b a : Nat} {ld : Nat → Int} {nm : Int → Int} (hW : mt_W I L R Y K P V te b ld nm) (hf : I 82 8 = 0) (hA : mt_A I te a) (dp : Nat) (sk : List Nat) (cs : List (Int × Int)) (hd : dp ≤ 5) {gg : Nat → Int × Int} (hm : mc_S gg I cs) : yi_P zi_Ms (d + 1) 96 [.inr (.inr (some 82)), .inl (dp : Int)] (I, L, R, Y) (mt_QRC gg I L R Y K P V te (3, a, dp, (10 :: sk), ld, nm, cs) 7 a dp sk ld nm pF (13 - 2 * dp) cs) := by
  refine yi_P_s (M := zi_m96) rfl (fun k => ?_)
  have hS := hW.1
  have ht := hW.2.1.1
  have ha := hA.2
  have hp := hW.2.1.2.1 a hA.2
  show yi_D zi_Ms d zi_m96 k (0, [(0, .inr (.inr (some 82))), (1, .inl (dp : Int))], [], (I, L, R, Y), 0, 0) _
  refine yi_D_run 2 (2, [(0, .inr (.inr (some 82))), (1, .inl (dp : Int))], [.inl (dp : Int), .inr (.inr (some 82))], (I, L, R, Y), 0, 0) (fun _ => rfl) ?_
  refine yi_D_callv rfl (hRT dp sk cs hW hf hA (by omega) 10 (Or.inl rfl) hm) ?_
  rintro _ ⟨I1, rfl, hFr2, (⟨a3, cs4, hR5, lt6, hf7, hA8, hmc9, hwf10⟩ | ⟨f11, hR12, hz13, he14⟩)⟩
  · have hW15 := mt_W_t hW hFr2
    have hF16 := hFr2
    rw [if_neg (by omega)] at hR5
    have hR17 := hR5
    have hwf18 : wfX pF (13 - 2 * dp) cs cs4 := wfX_m hwf10 (by omega)
    show yi_D zi_Ms d zi_m96 k (5, [(0, .inr (.inr (some 82))), (1, .inl (dp : Int))], [], (I1, L, R, Y), 0, 0) _
    have pt5 : ∀ j5, j5 ≤ k → ∀ (J1 : Nat → Nat → Int) (a1 : Nat) (cs1 : List (Int × Int)), (a < a1) → (mt_F I J1) → (J1 82 8 = 0) → (mt_A J1 te a1) → (sp_R K P V (3, a, dp, (10 :: sk), ld, nm, cs) (.inl (6, a1, dp, sk, ld, nm, cs1))) → (mc_S gg J1 cs1) → (wfX pF (13 - 2 * dp) cs cs1) → yi_D zi_Ms d zi_m96 j5 (5, [(0, .inr (.inr (some 82))), (1, .inl (dp : Int))], [], (J1, L, R, Y), 0, 0) (mt_QRC gg I L R Y K P V te (3, a, dp, (10 :: sk), ld, nm, cs) 7 a dp sk ld nm pF (13 - 2 * dp) cs) := by
      intro j5
      induction j5 with
      | zero => intros; exact yi_D_0
      | succ j5 ih5 =>
      intro hk5 J1 a1 cs1 lt9 hF9 hf9 hA9 hR9 hm9 hwf9
      have hW9 := mt_W_t hW hF9
      have hle9 := hA9.2
      have hte9 := hW.2.1.1
      refine yi_D_run1 1 (8, [(0, .inr (.inr (some 82))), (1, .inl (dp : Int))], [.inl 28, .inr (.inr (some 82))], (J1, L, R, Y), 0, 0) (fun _ => rfl) ?_
      refine yi_D_callv rfl (q_hasWord_z (by omega) (by omega) hW9 hf9 hA9) ?_
      rintro _ (⟨c19, I20, rfl, hGa21, hf22, hA23⟩ | ⟨c24, I25, rfl, hGa26, hf27, hA28⟩)
      · have hA23 : mt_A I20 te (a1 + 1) := hA23
        have hW29 := mt_W_t hW9 (mt_G_F hGa21)
        have hF30 := mt_F_t hF9 (mt_G_F hGa21)
        have hmc31 := mc_G hm9 hGa21
        show yi_D zi_Ms d zi_m96 j5 (11, [(0, .inr (.inr (some 82))), (1, .inl (dp : Int))], [.inl 1], (I20, L, R, Y), 0, 0) _
        refine yi_D_if1 false rfl (by decide) ?_
        refine yi_D_run 2 (16, [(0, .inr (.inr (some 82))), (1, .inl (dp : Int))], [.inl (dp : Int), .inr (.inr (some 82))], (I20, L, R, Y), 0, 0) (fun _ => rfl) ?_
        have hst32 : sp_R K P V (3, a, dp, (10 :: sk), ld, nm, cs) (.inl (3, a1 + 1, dp, 11 :: sk, ld, nm, cs1)) := sp_R_s hR9 (by
          show (if K a1 = 32 then _ else _) = _
          rw [if_pos (by omega)])
        refine yi_D_callv rfl (hRT dp sk cs1 hW29 hf22 hA23 (by omega) 11 (Or.inr rfl) hmc31) ?_
        rintro _ ⟨I33, rfl, hFr34, (⟨a35, cs36, hR37, lt38, hf39, hA40, hmc41, hwf42⟩ | ⟨f43, hR44, hz45, he46⟩)⟩
        · have hW47 := mt_W_t hW29 hFr34
          have hF48 := mt_F_t hF30 hFr34
          rw [if_pos rfl] at hR37
          have hR49 := sp_R_t hst32 hR37
          show yi_D zi_Ms d zi_m96 j5 (19, [(0, .inr (.inr (some 82))), (1, .inl (dp : Int))], [], (I33, L, R, Y), 0, 0) _
          refine yi_D_run 3 (23, [(0, .inr (.inr (some 82))), (1, .inl (dp : Int))], [.inl 0, .inl 10, .inr (.inr (some 82))], (I33, L, R, Y), 0, 0) (fun _ => rfl) ?_
          refine yi_D_callv rfl (q_emitC hW47 hmc41) ?_
          rintro _ ⟨I50, rfl, hE51, hmc52⟩
          have hW53 := mt_W_t hW47 (mt_E_F hE51)
          have hF54 := mt_F_t hF48 (mt_E_F hE51)
          have hf55 : I50 82 8 = 0 := (hE51.1 82 8 (by omega)).trans hf39
          have hA56 : mt_A I50 te a35 := ⟨(hE51.1 82 7 (by omega)).trans hA40.1, hA40.2⟩
          have hwf57 : wfX pF (13 - 2 * dp) cs (cs36 ++ [(10, 0)]) := wfX_2 hwf9 hwf42 (by omega) ⟨by omega, by omega⟩ pF_10
          show yi_D zi_Ms d zi_m96 j5 (26, [(0, .inr (.inr (some 82))), (1, .inl (dp : Int))], [], (I50, L, R, Y), 0, 0) _
          refine yi_D_run 1 (5, [(0, .inr (.inr (some 82))), (1, .inl (dp : Int))], [], (I50, L, R, Y), 0, 0) (fun _ => rfl) ?_
          exact yi_D_mono (ih5 (by omega) I50 a35 (cs36 ++ [(10, 0)]) (by omega) hF54 hf55 hA56 hR49 hmc52 hwf57) (by omega)
        · have hW58 := mt_W_t hW29 hFr34
          have hF59 := mt_F_t hF30 hFr34
          have hn60 : 0 < I33 82 8 := by rw [he46]; exact hz45
          have hx61 : sp_R K P V (3, a, dp, (10 :: sk), ld, nm, cs) (.inr f43) := sp_R_t hst32 hR44
          show yi_D zi_Ms d zi_m96 j5 (19, [(0, .inr (.inr (some 82))), (1, .inl (dp : Int))], [], (I33, L, R, Y), 0, 0) _
          refine yi_D_run 3 (23, [(0, .inr (.inr (some 82))), (1, .inl (dp : Int))], [.inl 0, .inl 10, .inr (.inr (some 82))], (I33, L, R, Y), 0, 0) (fun _ => rfl) ?_
          refine yi_D_callv rfl (q_emit hW58) ?_
          rintro _ ⟨I62, rfl, hE63⟩
          have hW64 := mt_W_t hW58 (mt_E_F hE63)
          have hF65 := mt_F_t hF59 (mt_E_F hE63)
          have hf66 : 0 < I62 82 8 := by rw [hE63.1 82 8 (by omega)]; exact hn60
          have he67 := (hE63.1 82 8 (by omega)).trans he46
          show yi_D zi_Ms d zi_m96 j5 (26, [(0, .inr (.inr (some 82))), (1, .inl (dp : Int))], [], (I62, L, R, Y), 0, 0) _
          refine yi_D_run 1 (5, [(0, .inr (.inr (some 82))), (1, .inl (dp : Int))], [], (I62, L, R, Y), 0, 0) (fun _ => rfl) ?_
          refine yi_D_run 2 (8, [(0, .inr (.inr (some 82))), (1, .inl (dp : Int))], [.inl 28, .inr (.inr (some 82))], (I62, L, R, Y), 0, 0) (fun _ => rfl) ?_
          refine yi_D_callv rfl (q_hasWord_f hW64 hf66) ?_
          rintro _ ⟨I68, rfl, hGa69, hq70⟩
          have hW71 := mt_W_t hW64 (mt_G_F hGa69)
          have hF72 := mt_F_t hF65 (mt_G_F hGa69)
          have hf73 : 0 < I68 82 8 := by rw [hq70]; exact hf66
          have he74 := hq70.trans he67
          show yi_D zi_Ms d zi_m96 j5 (11, [(0, .inr (.inr (some 82))), (1, .inl (dp : Int))], [.inl 0], (I68, L, R, Y), 0, 0) _
          refine yi_D_if1 true rfl (by decide) ?_
          refine yi_D_retv rfl ?_
          exact ⟨_, rfl, hF72, Or.inr ⟨_, hx61, hz45, he74⟩⟩
      · have hA28 : mt_A I25 te a1 := hA28
        have hW75 := mt_W_t hW9 (mt_G_F hGa26)
        have hF76 := mt_F_t hF9 (mt_G_F hGa26)
        have hmc77 := mc_G hm9 hGa26
        show yi_D zi_Ms d zi_m96 j5 (11, [(0, .inr (.inr (some 82))), (1, .inl (dp : Int))], [.inl 0], (I25, L, R, Y), 0, 0) _
        refine yi_D_if1 true rfl (by decide) ?_
        refine yi_D_retv rfl ?_
        have hst7 : sp_R K P V (3, a, dp, (10 :: sk), ld, nm, cs) (.inl (7, a1, dp, sk, ld, nm, cs1)) := sp_R_s hR9 (by
          show (if K a1 = 32 then _ else _) = _
          rw [if_neg (by omega)])
        exact ⟨_, rfl, hF76, Or.inl ⟨_, _, hst7, by omega, hf27, hA28, hmc77, hwf9⟩⟩
    exact pt5 k (Nat.le_refl _) I1 a3 cs4 (by omega) hF16 hf7 hA8 hR17 hmc9 hwf18
  · have hW78 := mt_W_t hW hFr2
    have hF79 := hFr2
    have hn80 : 0 < I1 82 8 := by rw [he14]; exact hz13
    have hx81 : sp_R K P V (3, a, dp, (10 :: sk), ld, nm, cs) (.inr f11) := hR12
    show yi_D zi_Ms d zi_m96 k (5, [(0, .inr (.inr (some 82))), (1, .inl (dp : Int))], [], (I1, L, R, Y), 0, 0) _
    refine yi_D_run 2 (8, [(0, .inr (.inr (some 82))), (1, .inl (dp : Int))], [.inl 28, .inr (.inr (some 82))], (I1, L, R, Y), 0, 0) (fun _ => rfl) ?_
    refine yi_D_callv rfl (q_hasWord_f hW78 hn80) ?_
    rintro _ ⟨I82, rfl, hGa83, hq84⟩
    have hW85 := mt_W_t hW78 (mt_G_F hGa83)
    have hF86 := mt_F_t hF79 (mt_G_F hGa83)
    have hf87 : 0 < I82 82 8 := by rw [hq84]; exact hn80
    have he88 := hq84.trans he14
    show yi_D zi_Ms d zi_m96 k (11, [(0, .inr (.inr (some 82))), (1, .inl (dp : Int))], [.inl 0], (I82, L, R, Y), 0, 0) _
    refine yi_D_if1 true rfl (by decide) ?_
    refine yi_D_retv rfl ?_
    exact ⟨_, rfl, hF86, Or.inr ⟨_, hx81, hz13, he88⟩⟩
theorem q_readRecC : ∀ d, mt_RIC d ∧ mt_RTC d ∧ mt_RFC d
  | 0 => ⟨fun _ _ _ _ _ _ _ _ => yi_P_0, fun _ _ _ _ _ _ _ _ _ _ => yi_P_0, fun _ _ _ _ _ _ _ _ => yi_P_0⟩
  | d + 1 => by
    obtain ⟨h1, h2, h3⟩ := q_readRecC d
    exact ⟨fun dp sk cs hW hf hA hd hm => q_readItemC_s h1 h3 hW hf hA dp sk cs hd hm, fun dp sk cs hW hf hA hd ef he hm => q_readTermC_s h1 hW hf hA dp sk cs hd hm ef he, fun dp sk cs hW hf hA hd hm => q_readFormulaC_s h2 hW hf hA dp sk cs hd hm⟩
theorem q_readFormulaC {d : Nat} : mt_RFC d := (q_readRecC d).2.2
def mt_ROC (d : Nat) : Prop := ∀ {I L : Nat → Nat → Int} {R : Nat → Nat → Option Nat} {Y : (Nat → Nat) × (Nat → Nat) × Nat} {K P V : Nat → Int} {te b a : Nat} {ld : Nat → Int} {nm : Int → Int} {gg : Nat → Int × Int} (dp : Nat) (sk : List Nat) (cs : List (Int × Int)), mt_W I L R Y K P V te b ld nm → I 82 8 = 0 → mt_A I te a → dp ≤ 5 → mc_S gg I cs → yi_P zi_Ms d 87 [.inr (.inr (some 82)), .inl (dp : Int)] (I, L, R, Y) (mt_QRC gg I L R Y K P V te (8, a, dp, sk, ld, nm, cs) 13 a dp sk ld nm okP (25 - 4 * dp) cs)
def mt_RSC (d : Nat) : Prop := ∀ {I L : Nat → Nat → Int} {R : Nat → Nat → Option Nat} {Y : (Nat → Nat) × (Nat → Nat) × Nat} {K P V : Nat → Int} {te b a : Nat} {ld : Nat → Int} {nm : Int → Int} {gg : Nat → Int × Int} (dp : Nat) (sk : List Nat) (cs : List (Int × Int)), mt_W I L R Y K P V te b ld nm → I 82 8 = 0 → mt_A I te a → dp ≤ 5 → mc_S gg I cs → yi_P zi_Ms d 123 [.inr (.inr (some 82)), .inl (dp : Int)] (I, L, R, Y) (mt_QRC gg I L R Y K P V te (9, a, dp, sk, ld, nm, cs) 13 a dp sk ld nm okP (24 - 4 * dp) cs)
def mt_RUC (d : Nat) : Prop := ∀ {I L : Nat → Nat → Int} {R : Nat → Nat → Option Nat} {Y : (Nat → Nat) × (Nat → Nat) × Nat} {K P V : Nat → Int} {te b a : Nat} {ld : Nat → Int} {nm : Int → Int} {gg : Nat → Int × Int} (dp : Nat) (sk : List Nat) (cs : List (Int × Int)), mt_W I L R Y K P V te b ld nm → I 82 8 = 0 → mt_A I te a → dp ≤ 5 → mc_S gg I cs → yi_P zi_Ms d 114 [.inr (.inr (some 82)), .inl (dp : Int)] (I, L, R, Y) (mt_QRC gg I L R Y K P V te (10, a, dp, sk, ld, nm, cs) 13 a dp sk ld nm okP (23 - 4 * dp) cs)
def mt_RDC (d : Nat) : Prop := ∀ {I L : Nat → Nat → Int} {R : Nat → Nat → Option Nat} {Y : (Nat → Nat) × (Nat → Nat) × Nat} {K P V : Nat → Int} {te b a : Nat} {ld : Nat → Int} {nm : Int → Int} {gg : Nat → Int × Int} (dp : Nat) (sk : List Nat) (cs : List (Int × Int)), mt_W I L R Y K P V te b ld nm → I 82 8 = 0 → mt_A I te a → dp ≤ 5 → mc_S gg I cs → yi_P zi_Ms d 89 [.inr (.inr (some 82)), .inl (dp : Int)] (I, L, R, Y) (mt_QRC gg I L R Y K P V te (11, a, dp, sk, ld, nm, cs) 13 a dp sk ld nm okP (22 - 4 * dp) cs)
def mt_RPC (d : Nat) : Prop := ∀ {I L : Nat → Nat → Int} {R : Nat → Nat → Option Nat} {Y : (Nat → Nat) × (Nat → Nat) × Nat} {K P V : Nat → Int} {te b a : Nat} {ld : Nat → Int} {nm : Int → Int} {gg : Nat → Int × Int} (dp : Nat) (sk : List Nat) (cs : List (Int × Int)), mt_W I L R Y K P V te b ld nm → I 82 8 = 0 → mt_A I te a → dp ≤ 5 → mc_S gg I cs → yi_P zi_Ms d 117 [.inr (.inr (some 82)), .inl (dp : Int)] (I, L, R, Y) (mt_QRC gg I L R Y K P V te (12, a, dp, sk, ld, nm, cs) 13 a dp sk ld nm okP (21 - 4 * dp) cs)
theorem sp_fact_le2 {v : Int} : sp_fact v ≤ 2 := by
  unfold sp_fact
  repeat (first | split | omega)
theorem q_takePartC_s {d : Nat} {I L : Nat → Nat → Int} {R : Nat → Nat → Option Nat} {Y : (Nat → Nat) × (Nat → Nat) × Nat} (hRP : mt_RPC d) (hRO : mt_ROC d) {K P V : Nat → Int} {te b a : Nat} {ld : Nat → Int} {nm : Int → Int} (hW : mt_W I L R Y K P V te b ld nm) (hf : I 82 8 = 0) (hA : mt_A I te a) (dp : Nat) (sk : List Nat) (cs : List (Int × Int)) (hd : dp ≤ 5) {gg : Nat → Int × Int} (hm : mc_S gg I cs) : yi_P zi_Ms (d + 1) 117 [.inr (.inr (some 82)), .inl (dp : Int)] (I, L, R, Y) (mt_QRC gg I L R Y K P V te (12, a, dp, sk, ld, nm, cs) 13 a dp sk ld nm okP (21 - 4 * dp) cs) := by
  refine yi_P_s (M := zi_m117) rfl (fun k => ?_)
  have hS := hW.1
  have ht := hW.2.1.1
  have ha := hA.2
  have hp := hW.2.1.2.1 a hA.2
  have hnb := mt_nb hW.2.1 hA.2
  have hfb : -1 ≤ sp_fact (V a) := by
    unfold sp_fact
    repeat (first | omega | split)
  show yi_D zi_Ms d zi_m117 k (0, [(0, .inr (.inr (some 82))), (1, .inl (dp : Int))], [], (I, L, R, Y), 0, 0) _
  refine yi_D_run 1 (1, [(0, .inr (.inr (some 82))), (1, .inl (dp : Int))], [.inr (.inr (some 82))], (I, L, R, Y), 0, 0) (fun _ => rfl) ?_
  refine yi_D_gi (v := 0) rfl rfl rfl hf (fun _ => ?_)
  refine yi_D_if1 true rfl (by decide) ?_
  refine yi_D_run 1 (9, [(0, .inr (.inr (some 82))), (1, .inl (dp : Int))], [.inr (.inr (some 82))], (I, L, R, Y), 0, 0) (fun _ => rfl) ?_
  refine yi_D_gr (v := some 84) rfl rfl rfl (ym_S_at hS (j := 1) rfl).1 (fun _ => ?_)
  refine yi_D_run 1 (13, [(0, .inr (.inr (some 82))), (1, .inl (dp : Int))], [.inr (.inr (some 82)), .inr (.inr (some 84))], (I, L, R, Y), 0, 0) (fun _ => rfl) ?_
  refine yi_D_gi (v := (a : Int)) rfl rfl rfl hA.1 (fun _ => ?_)
  refine yi_D_il (v := I 84 a) rfl rfl rfl (fun _ _ => ?_)
  refine yi_D_run 1 (18, [(0, .inr (.inr (some 82))), (1, .inl (dp : Int))], [.inl 2, .inl (I 84 a)], (I, L, R, Y), 0, 0) (fun _ => rfl) ?_
  by_cases h1 : (I 84 a) = 2
  · refine yi_D_if2 false rfl (yi_ne_f h1) ?_
    refine yi_D_run 6 (31, [(2, .inl 1), (0, .inr (.inr (some 82))), (1, .inl (dp : Int))], [.inl 3, .inl 29, .inr (.inr (some 82))], (I, L, R, Y), 0, 0) (fun _ => rfl) ?_
    refine yi_D_callv rfl (q_wordHere_3 hW hf hA) ?_
    rintro _ ⟨z2, rfl, hz3⟩
    show yi_D zi_Ms d zi_m117 k (34, [(2, .inl 1), (0, .inr (.inr (some 82))), (1, .inl (dp : Int))], [.inl z2], (I, L, R, Y), 0, 0) _
    refine yi_D_run 2 (36, [(3, .inl z2), (2, .inl 1), (0, .inr (.inr (some 82))), (1, .inl (dp : Int))], [.inl z2], (I, L, R, Y), 0, 0) (fun _ => rfl) ?_
    by_cases h4 : 0 ≤ z2
    · refine yi_D_if1 true rfl (yi_ge_t h4) ?_
      refine yi_D_run 2 (71, [(3, .inl z2), (2, .inl 1), (0, .inr (.inr (some 82))), (1, .inl (dp : Int))], [.inl 5, .inl (dp : Int)], (I, L, R, Y), 0, 0) (fun _ => rfl) ?_
      by_cases h5 : (dp : Int) = 5
      · refine yi_D_if2 false rfl (yi_ne_f h5) ?_
        refine yi_D_run 2 (76, [(3, .inl z2), (2, .inl 1), (0, .inr (.inr (some 82))), (1, .inl (dp : Int))], [.inl 5, .inr (.inr (some 82))], (I, L, R, Y), 0, 0) (fun _ => rfl) ?_
        refine yi_D_callv rfl (q_wrong_z ⟨by omega, by omega⟩ hW hf hA) ?_
        rintro _ ⟨I6, rfl, hg7, he8⟩
        have hGw9 : mt_G I I6 := fun p k hp => hg7 p k (by omega)
        have hW10 := mt_W_t hW (mt_G_F hGw9)
        have hF11 := (mt_G_F hGw9)
        have hG12 := hGw9
        have hmc13 := mc_G hm hGw9
        have hz14 : 0 < sp_f P a 5 := mt_f_ne hW hA.2 (by omega)
        have hn15 : 0 < I6 82 8 := by rw [he8]; exact hz14
        have hx16 : sp_R K P V (12, a, dp, sk, ld, nm, cs) (.inr (sp_f P a 5)) := sp_R_1 (by
          show sp_part K P V a dp sk ld nm cs = _
          first
          | (exfalso; omega)
          | (unfold sp_part; (repeat (first | rw [if_pos (by omega)] | rw [if_neg (by omega)])); done))
        show yi_D zi_Ms d zi_m117 k (79, [(3, .inl z2), (2, .inl 1), (0, .inr (.inr (some 82))), (1, .inl (dp : Int))], [], (I6, L, R, Y), 0, 0) _
        refine yi_D_run 1 (80, [(3, .inl z2), (2, .inl 1), (0, .inr (.inr (some 82))), (1, .inl (dp : Int))], [.inr (.inr (some 82))], (I6, L, R, Y), 0, 0) (fun _ => rfl) ?_
        refine yi_D_gi (v := I6 82 8) rfl rfl rfl rfl (fun _ => ?_)
        have h17 : ¬ ((I6 82 8) ≤ 0) := by omega
        refine yi_D_if1 false rfl (yi_le_f h17) ?_
        refine yi_D_retv rfl ?_
        exact ⟨_, rfl, hF11, Or.inr ⟨_, hx16, hz14, he8⟩⟩
      · refine yi_D_if2 true rfl (yi_ne_t h5) ?_
        refine yi_D_run 1 (80, [(3, .inl z2), (2, .inl 1), (0, .inr (.inr (some 82))), (1, .inl (dp : Int))], [.inr (.inr (some 82))], (I, L, R, Y), 0, 0) (fun _ => rfl) ?_
        refine yi_D_gi (v := 0) rfl rfl rfl hf (fun _ => ?_)
        refine yi_D_if1 true rfl (by decide) ?_
        refine yi_D_run 2 (90, [(3, .inl z2), (2, .inl 1), (0, .inr (.inr (some 82))), (1, .inl (dp : Int))], [.inl 26, .inr (.inr (some 82))], (I, L, R, Y), 0, 0) (fun _ => rfl) ?_
        refine yi_D_callv rfl (q_hasWord_z (by omega) (by omega) hW hf hA) ?_
        rintro _ (⟨c18, I19, rfl, hGa20, hf21, hA22⟩ | ⟨c23, I24, rfl, hGa25, hf26, hA27⟩)
        · have hA22 : mt_A I19 te (a + 1) := hA22
          have hW28 := mt_W_t hW (mt_G_F hGa20)
          have hF29 := (mt_G_F hGa20)
          have hG30 := hGa20
          have hmc31 := mc_G hm hGa20
          show yi_D zi_Ms d zi_m117 k (93, [(3, .inl z2), (2, .inl 1), (0, .inr (.inr (some 82))), (1, .inl (dp : Int))], [.inl 1], (I19, L, R, Y), 0, 0) _
          refine yi_D_if1 false rfl (by decide) ?_
          refine yi_D_run 3 (99, [(3, .inl z2), (2, .inl 1), (0, .inr (.inr (some 82))), (1, .inl (dp : Int))], [.inl 1, .inl (dp : Int), .inr (.inr (some 82))], (I19, L, R, Y), 0, 0) (fun _ => rfl) ?_
          refine yi_D_iadd rfl ((dp : Int) + 1) (yi_wn (by omega) (by omega)) ?_
          have hst32 : sp_R K P V (12, a, dp, sk, ld, nm, cs) (.inl (12, a + 1, dp + 1, 5 :: sk, ld, nm, cs)) := sp_R_1 (by
            show sp_part K P V a dp sk ld nm cs = _
            first
            | (exfalso; omega)
            | (unfold sp_part; (repeat (first | rw [if_pos (by omega)] | rw [if_neg (by omega)])); done))
          refine yi_D_callv rfl (hRP (dp + 1) (5 :: sk) cs hW28 hf21 hA22 (by omega) hmc31) ?_
          rintro _ ⟨I33, rfl, hFr34, (⟨a35, cs36, hR37, lt38, hf39, hA40, hmc41, hwf42⟩ | ⟨f43, hR44, hz45, he46⟩)⟩
          · have hW47 := mt_W_t hW28 hFr34
            have hF48 := mt_F_t hF29 hFr34
            have hR49 : sp_R K P V (12, a, dp, sk, ld, nm, cs) (.inl (13, a35, dp, sk, ld, nm, cs36 ++ [(3, 0)])) := sp_R_s (sp_R_t hst32 hR37) rfl
            have hwf50 : wfX okP (21 - 4 * dp) cs cs36 := wfX_m hwf42 (by omega)
            show yi_D zi_Ms d zi_m117 k (103, [(3, .inl z2), (2, .inl 1), (0, .inr (.inr (some 82))), (1, .inl (dp : Int))], [], (I33, L, R, Y), 0, 0) _
            refine yi_D_run 3 (106, [(3, .inl z2), (2, .inl 1), (0, .inr (.inr (some 82))), (1, .inl (dp : Int))], [.inl 0, .inl 3, .inr (.inr (some 82))], (I33, L, R, Y), 0, 0) (fun _ => rfl) ?_
            refine yi_D_callv rfl (q_emitC hW47 hmc41) ?_
            rintro _ ⟨I51, rfl, hE52, hmc53⟩
            have hW54 := mt_W_t hW47 (mt_E_F hE52)
            have hF55 := mt_F_t hF48 (mt_E_F hE52)
            have hf56 : I51 82 8 = 0 := (hE52.1 82 8 (by omega)).trans hf39
            have hA57 : mt_A I51 te a35 := ⟨(hE52.1 82 7 (by omega)).trans hA40.1, hA40.2⟩
            have hwf58 : wfX okP (21 - 4 * dp) cs (cs36 ++ [(3, 0)]) := wfX_3 hwf50 (by omega) okP_3
            show yi_D zi_Ms d zi_m117 k (109, [(3, .inl z2), (2, .inl 1), (0, .inr (.inr (some 82))), (1, .inl (dp : Int))], [], (I51, L, R, Y), 0, 0) _
            refine yi_D_run 1 (178, [(3, .inl z2), (2, .inl 1), (0, .inr (.inr (some 82))), (1, .inl (dp : Int))], [], (I51, L, R, Y), 0, 0) (fun _ => rfl) ?_
            refine yi_D_retv rfl ?_
            exact ⟨_, rfl, hF55, Or.inl ⟨_, _, hR49, by omega, hf56, hA57, hmc53, hwf58⟩⟩
          · have hW59 := mt_W_t hW28 hFr34
            have hF60 := mt_F_t hF29 hFr34
            have hn61 : 0 < I33 82 8 := by rw [he46]; exact hz45
            have hx62 : sp_R K P V (12, a, dp, sk, ld, nm, cs) (.inr f43) := sp_R_t hst32 hR44
            show yi_D zi_Ms d zi_m117 k (103, [(3, .inl z2), (2, .inl 1), (0, .inr (.inr (some 82))), (1, .inl (dp : Int))], [], (I33, L, R, Y), 0, 0) _
            refine yi_D_run 3 (106, [(3, .inl z2), (2, .inl 1), (0, .inr (.inr (some 82))), (1, .inl (dp : Int))], [.inl 0, .inl 3, .inr (.inr (some 82))], (I33, L, R, Y), 0, 0) (fun _ => rfl) ?_
            refine yi_D_callv rfl (q_emit hW59) ?_
            rintro _ ⟨I63, rfl, hE64⟩
            have hW65 := mt_W_t hW59 (mt_E_F hE64)
            have hF66 := mt_F_t hF60 (mt_E_F hE64)
            have hf67 : 0 < I63 82 8 := by rw [hE64.1 82 8 (by omega)]; exact hn61
            have he68 := (hE64.1 82 8 (by omega)).trans he46
            show yi_D zi_Ms d zi_m117 k (109, [(3, .inl z2), (2, .inl 1), (0, .inr (.inr (some 82))), (1, .inl (dp : Int))], [], (I63, L, R, Y), 0, 0) _
            refine yi_D_run 1 (178, [(3, .inl z2), (2, .inl 1), (0, .inr (.inr (some 82))), (1, .inl (dp : Int))], [], (I63, L, R, Y), 0, 0) (fun _ => rfl) ?_
            refine yi_D_retv rfl ?_
            exact ⟨_, rfl, hF66, Or.inr ⟨_, hx62, hz45, he68⟩⟩
        · have hA27 : mt_A I24 te a := hA27
          have hW69 := mt_W_t hW (mt_G_F hGa25)
          have hF70 := (mt_G_F hGa25)
          have hG71 := hGa25
          have hmc72 := mc_G hm hGa25
          show yi_D zi_Ms d zi_m117 k (93, [(3, .inl z2), (2, .inl 1), (0, .inr (.inr (some 82))), (1, .inl (dp : Int))], [.inl 0], (I24, L, R, Y), 0, 0) _
          refine yi_D_if1 true rfl (by decide) ?_
          refine yi_D_run 2 (115, [(3, .inl z2), (2, .inl 1), (0, .inr (.inr (some 82))), (1, .inl (dp : Int))], [.inl 40, .inr (.inr (some 82))], (I24, L, R, Y), 0, 0) (fun _ => rfl) ?_
          refine yi_D_callv rfl (q_hasSign_z (by omega) hW69 hf26 hA27) ?_
          rintro _ (⟨c73, I74, rfl, hGa75, hf76, hA77⟩ | ⟨c78, I79, rfl, hGa80, hf81, hA82⟩)
          · have hA77 : mt_A I74 te (a + 1) := hA77
            have hW83 := mt_W_t hW69 (mt_G_F hGa75)
            have hF84 := mt_F_t hF70 (mt_G_F hGa75)
            have hG85 := mt_G_t hG71 hGa75
            have hmc86 := mc_G hmc72 hGa75
            show yi_D zi_Ms d zi_m117 k (118, [(3, .inl z2), (2, .inl 1), (0, .inr (.inr (some 82))), (1, .inl (dp : Int))], [.inl 1], (I74, L, R, Y), 0, 0) _
            refine yi_D_if1 false rfl (by decide) ?_
            refine yi_D_run 3 (124, [(3, .inl z2), (2, .inl 1), (0, .inr (.inr (some 82))), (1, .inl (dp : Int))], [.inl 1, .inl (dp : Int), .inr (.inr (some 82))], (I74, L, R, Y), 0, 0) (fun _ => rfl) ?_
            refine yi_D_iadd rfl ((dp : Int) + 1) (yi_wn (by omega) (by omega)) ?_
            have hst87 : sp_R K P V (12, a, dp, sk, ld, nm, cs) (.inl (8, a + 1, dp + 1, 6 :: sk, ld, nm, cs)) := sp_R_1 (by
              show sp_part K P V a dp sk ld nm cs = _
              first
              | (exfalso; omega)
              | (unfold sp_part; (repeat (first | rw [if_pos (by omega)] | rw [if_neg (by omega)])); done))
            refine yi_D_callv rfl (hRO (dp + 1) (6 :: sk) cs hW83 hf76 hA77 (by omega) hmc86) ?_
            rintro _ ⟨I88, rfl, hFr89, (⟨a90, cs91, hR92, lt93, hf94, hA95, hmc96, hwf97⟩ | ⟨f98, hR99, hz100, he101⟩)⟩
            · have hW102 := mt_W_t hW83 hFr89
              have hF103 := mt_F_t hF84 hFr89
              have hR104 := sp_R_t hst87 hR92
              have hwf105 : wfX okP (21 - 4 * dp) cs cs91 := wfX_m hwf97 (by omega)
              show yi_D zi_Ms d zi_m117 k (128, [(3, .inl z2), (2, .inl 1), (0, .inr (.inr (some 82))), (1, .inl (dp : Int))], [], (I88, L, R, Y), 0, 0) _
              refine yi_D_run 2 (131, [(3, .inl z2), (2, .inl 1), (0, .inr (.inr (some 82))), (1, .inl (dp : Int))], [.inl 41, .inr (.inr (some 82))], (I88, L, R, Y), 0, 0) (fun _ => rfl) ?_
              refine yi_D_callv rfl (q_takeSign_z (by omega) hW102 hf94 hA95) ?_
              rintro _ (⟨c106, I107, rfl, hGa108, hf109, hA110⟩ | ⟨c111, I112, rfl, hGa113, he114⟩)
              · have hA110 : mt_A I107 te (a90 + 1) := hA110
                have hW115 := mt_W_t hW102 (mt_G_F hGa108)
                have hF116 := mt_F_t hF103 (mt_G_F hGa108)
                have hmc117 := mc_G hmc96 hGa108
                have hR118 : sp_R K P V (12, a, dp, sk, ld, nm, cs) (.inl (13, a90 + 1, dp, sk, ld, nm, cs91)) := sp_R_s hR104 (by
                  show (if K _ = 41 then _ else _) = _
                  rw [if_pos (by omega)]
                  rfl)
                show yi_D zi_Ms d zi_m117 k (134, [(3, .inl z2), (2, .inl 1), (0, .inr (.inr (some 82))), (1, .inl (dp : Int))], [], (I107, L, R, Y), 0, 0) _
                refine yi_D_run 1 (178, [(3, .inl z2), (2, .inl 1), (0, .inr (.inr (some 82))), (1, .inl (dp : Int))], [], (I107, L, R, Y), 0, 0) (fun _ => rfl) ?_
                refine yi_D_retv rfl ?_
                exact ⟨_, rfl, hF116, Or.inl ⟨_, _, hR118, by omega, hf109, hA110, hmc117, hwf105⟩⟩
              · have hW119 := mt_W_t hW102 (mt_G_F hGa113)
                have hF120 := mt_F_t hF103 (mt_G_F hGa113)
                have hmc121 := mc_G hmc96 hGa113
                have hz122 : 0 < sp_f P a90 1 := mt_f_ne hW102 hA95.2 (by omega)
                have hn123 : 0 < I112 82 8 := by rw [he114]; exact hz122
                have hx124 : sp_R K P V (12, a, dp, sk, ld, nm, cs) (.inr (sp_f P a90 1)) := sp_R_s hR104 (by
                  show (if K _ = _ then _ else _) = _
                  rw [if_neg (by omega)])
                show yi_D zi_Ms d zi_m117 k (134, [(3, .inl z2), (2, .inl 1), (0, .inr (.inr (some 82))), (1, .inl (dp : Int))], [], (I112, L, R, Y), 0, 0) _
                refine yi_D_run 1 (178, [(3, .inl z2), (2, .inl 1), (0, .inr (.inr (some 82))), (1, .inl (dp : Int))], [], (I112, L, R, Y), 0, 0) (fun _ => rfl) ?_
                refine yi_D_retv rfl ?_
                exact ⟨_, rfl, hF120, Or.inr ⟨_, hx124, hz122, he114⟩⟩
            · have hW125 := mt_W_t hW83 hFr89
              have hF126 := mt_F_t hF84 hFr89
              have hn127 : 0 < I88 82 8 := by rw [he101]; exact hz100
              have hx128 : sp_R K P V (12, a, dp, sk, ld, nm, cs) (.inr f98) := sp_R_t hst87 hR99
              show yi_D zi_Ms d zi_m117 k (128, [(3, .inl z2), (2, .inl 1), (0, .inr (.inr (some 82))), (1, .inl (dp : Int))], [], (I88, L, R, Y), 0, 0) _
              refine yi_D_run 2 (131, [(3, .inl z2), (2, .inl 1), (0, .inr (.inr (some 82))), (1, .inl (dp : Int))], [.inl 41, .inr (.inr (some 82))], (I88, L, R, Y), 0, 0) (fun _ => rfl) ?_
              refine yi_D_callv rfl (q_takeSign_f hW125 hn127) ?_
              rintro _ rfl
              show yi_D zi_Ms d zi_m117 k (134, [(3, .inl z2), (2, .inl 1), (0, .inr (.inr (some 82))), (1, .inl (dp : Int))], [], (I88, L, R, Y), 0, 0) _
              refine yi_D_run 1 (178, [(3, .inl z2), (2, .inl 1), (0, .inr (.inr (some 82))), (1, .inl (dp : Int))], [], (I88, L, R, Y), 0, 0) (fun _ => rfl) ?_
              refine yi_D_retv rfl ?_
              exact ⟨_, rfl, hF126, Or.inr ⟨_, hx128, hz100, he101⟩⟩
          · have hA82 : mt_A I79 te a := hA82
            have hW129 := mt_W_t hW69 (mt_G_F hGa80)
            have hF130 := mt_F_t hF70 (mt_G_F hGa80)
            have hG131 := mt_G_t hG71 hGa80
            have hmc132 := mc_G hmc72 hGa80
            show yi_D zi_Ms d zi_m117 k (118, [(3, .inl z2), (2, .inl 1), (0, .inr (.inr (some 82))), (1, .inl (dp : Int))], [.inl 0], (I79, L, R, Y), 0, 0) _
            refine yi_D_if1 true rfl (by decide) ?_
            refine yi_D_run 2 (139, [(3, .inl z2), (2, .inl 1), (0, .inr (.inr (some 82))), (1, .inl (dp : Int))], [.inl 1, .inr (.inr (some 82))], (I79, L, R, Y), 0, 0) (fun _ => rfl) ?_
            refine yi_D_if1 false rfl (by decide) ?_
            refine yi_D_run 3 (148, [(3, .inl z2), (2, .inl 1), (0, .inr (.inr (some 82))), (1, .inl (dp : Int))], [.inl 1, .inl 1, .inr (.inr (some 82))], (I79, L, R, Y), 0, 0) (fun _ => rfl) ?_
            refine yi_D_if1 false rfl (by decide) ?_
            refine yi_D_run 1 (152, [(3, .inl z2), (2, .inl 1), (0, .inr (.inr (some 82))), (1, .inl (dp : Int))], [.inr (.inr (some 82)), .inl 1, .inr (.inr (some 82))], (I79, L, R, Y), 0, 0) (fun _ => rfl) ?_
            refine yi_D_gr (v := some 86) rfl rfl rfl (ym_S_at hS (j := 3) rfl).1 (fun _ => ?_)
            refine yi_D_run 1 (156, [(3, .inl z2), (2, .inl 1), (0, .inr (.inr (some 82))), (1, .inl (dp : Int))], [.inr (.inr (some 82)), .inr (.inr (some 86)), .inl 1, .inr (.inr (some 82))], (I79, L, R, Y), 0, 0) (fun _ => rfl) ?_
            refine yi_D_gi (v := (a : Int)) rfl rfl rfl hA82.1 (fun _ => ?_)
            refine yi_D_ll (v := L 86 a) rfl rfl rfl (fun _ _ => ?_)
            refine yi_D_run 2 (165, [(3, .inl z2), (2, .inl 1), (0, .inr (.inr (some 82))), (1, .inl (dp : Int))], [.inl (yi_w (L 86 a)), .inl 1, .inr (.inr (some 82))], (I79, L, R, Y), 0, 0) (fun _ => rfl) ?_
            refine yi_D_callv rfl (q_emitC hW129 hmc132) ?_
            rintro _ ⟨I133, rfl, hE134, hmc135⟩
            have hW136 := mt_W_t hW129 (mt_E_F hE134)
            have hF137 := mt_F_t hF130 (mt_E_F hE134)
            have hf138 : I133 82 8 = 0 := (hE134.1 82 8 (by omega)).trans hf81
            have hA139 : mt_A I133 te a := ⟨(hE134.1 82 7 (by omega)).trans hA82.1, hA82.2⟩
            have hmc135 : mc_S gg I133 (cs ++ [(if K a = 2 then ((1 : Int), V a) else (2, sp_fact (V a)))]) := by rw [show ((if K a = 2 then ((1 : Int), V a) else (2, sp_fact (V a))) : Int × Int) = (1, yi_w (L 86 a)) from (by rw [if_pos (by omega), show yi_w (L 86 a) = V a from by (rw [(hp.2.2.2.1 (by omega)).1]; exact yi_wn (by have := hp.2.2.2.1 (by omega); omega) (by have := hp.2.2.2.1 (by omega); omega))])]; exact hmc135
            have hwf140 : wfX okP (21 - 4 * dp) cs (cs ++ [(if K a = 2 then ((1 : Int), V a) else (2, sp_fact (V a)))]) := wfX_n (by omega) (fun h => (hp.2.2.2.1 h).2) (fun h => ⟨by omega, sp_fact_le2⟩)
            show yi_D zi_Ms d zi_m117 k (168, [(3, .inl z2), (2, .inl 1), (0, .inr (.inr (some 82))), (1, .inl (dp : Int))], [], (I133, L, R, Y), 0, 0) _
            refine yi_D_run 2 (170, [(3, .inl z2), (2, .inl 1), (0, .inr (.inr (some 82))), (1, .inl (dp : Int))], [.inr (.inr (some 82)), .inr (.inr (some 82))], (I133, L, R, Y), 0, 0) (fun _ => rfl) ?_
            refine yi_D_gi (v := (a : Int)) rfl rfl rfl hA139.1 (fun _ => ?_)
            refine yi_D_run 1 (174, [(3, .inl z2), (2, .inl 1), (0, .inr (.inr (some 82))), (1, .inl (dp : Int))], [.inl 1, .inl (a : Int), .inr (.inr (some 82))], (I133, L, R, Y), 0, 0) (fun _ => rfl) ?_
            refine yi_D_iadd rfl ((a : Int) + 1) (yi_wn (by omega) (by omega)) ?_
            refine yi_D_pi rfl (fun _ => ?_)
            generalize w142 : yi_u I133 82 7 ((a : Int) + 1) = I141
            have hGn143 : mt_G I133 I141 := fun p k hp => by rw [← w142, yi_u_ne _ _ (by omega)]
            have hW144 := mt_W_t hW136 (mt_G_F hGn143)
            have hF145 := mt_F_t hF137 (mt_G_F hGn143)
            have hmc146 := mc_G hmc135 hGn143
            have hf147 : I141 82 8 = 0 := by rw [← w142, yi_u_ne _ _ (by omega)]; exact hf138
            have hA148 : mt_A I141 te (a + 1) := ⟨by rw [← w142, yi_u_eq]; omega, mt_lt hW144.2.1 hA139.2 (by omega)⟩
            refine yi_D_retv rfl ?_
            have hst : sp_R K P V (12, a, dp, sk, ld, nm, cs) (.inl (13, a + 1, dp, sk, ld, nm, cs ++ [(if K a = 2 then ((1 : Int), V a) else (2, sp_fact (V a)))])) := sp_R_1 (by
              show sp_part K P V a dp sk ld nm cs = _
              first
              | (exfalso; omega)
              | (unfold sp_part; rw [if_neg (by omega), if_neg (by omega), if_neg (by omega), if_neg (by omega)]))
            exact ⟨_, rfl, hF145, Or.inl ⟨_, _, hst, by omega, hf147, hA148, hmc146, hwf140⟩⟩
    · refine yi_D_if1 false rfl (yi_ge_f h4) ?_
      refine yi_D_run 1 (40, [(3, .inl z2), (2, .inl 1), (0, .inr (.inr (some 82))), (1, .inl (dp : Int))], [.inl 1], (I, L, R, Y), 0, 0) (fun _ => rfl) ?_
      refine yi_D_if1 true rfl (by decide) ?_
      refine yi_D_run 2 (71, [(3, .inl z2), (2, .inl 1), (0, .inr (.inr (some 82))), (1, .inl (dp : Int))], [.inl 5, .inl (dp : Int)], (I, L, R, Y), 0, 0) (fun _ => rfl) ?_
      by_cases h149 : (dp : Int) = 5
      · refine yi_D_if2 false rfl (yi_ne_f h149) ?_
        refine yi_D_run 2 (76, [(3, .inl z2), (2, .inl 1), (0, .inr (.inr (some 82))), (1, .inl (dp : Int))], [.inl 5, .inr (.inr (some 82))], (I, L, R, Y), 0, 0) (fun _ => rfl) ?_
        refine yi_D_callv rfl (q_wrong_z ⟨by omega, by omega⟩ hW hf hA) ?_
        rintro _ ⟨I150, rfl, hg151, he152⟩
        have hGw153 : mt_G I I150 := fun p k hp => hg151 p k (by omega)
        have hW154 := mt_W_t hW (mt_G_F hGw153)
        have hF155 := (mt_G_F hGw153)
        have hG156 := hGw153
        have hmc157 := mc_G hm hGw153
        have hz158 : 0 < sp_f P a 5 := mt_f_ne hW hA.2 (by omega)
        have hn159 : 0 < I150 82 8 := by rw [he152]; exact hz158
        have hx160 : sp_R K P V (12, a, dp, sk, ld, nm, cs) (.inr (sp_f P a 5)) := sp_R_1 (by
          show sp_part K P V a dp sk ld nm cs = _
          first
          | (exfalso; omega)
          | (unfold sp_part; (repeat (first | rw [if_pos (by omega)] | rw [if_neg (by omega)])); done))
        show yi_D zi_Ms d zi_m117 k (79, [(3, .inl z2), (2, .inl 1), (0, .inr (.inr (some 82))), (1, .inl (dp : Int))], [], (I150, L, R, Y), 0, 0) _
        refine yi_D_run 1 (80, [(3, .inl z2), (2, .inl 1), (0, .inr (.inr (some 82))), (1, .inl (dp : Int))], [.inr (.inr (some 82))], (I150, L, R, Y), 0, 0) (fun _ => rfl) ?_
        refine yi_D_gi (v := I150 82 8) rfl rfl rfl rfl (fun _ => ?_)
        have h161 : ¬ ((I150 82 8) ≤ 0) := by omega
        refine yi_D_if1 false rfl (yi_le_f h161) ?_
        refine yi_D_retv rfl ?_
        exact ⟨_, rfl, hF155, Or.inr ⟨_, hx160, hz158, he152⟩⟩
      · refine yi_D_if2 true rfl (yi_ne_t h149) ?_
        refine yi_D_run 1 (80, [(3, .inl z2), (2, .inl 1), (0, .inr (.inr (some 82))), (1, .inl (dp : Int))], [.inr (.inr (some 82))], (I, L, R, Y), 0, 0) (fun _ => rfl) ?_
        refine yi_D_gi (v := 0) rfl rfl rfl hf (fun _ => ?_)
        refine yi_D_if1 true rfl (by decide) ?_
        refine yi_D_run 2 (90, [(3, .inl z2), (2, .inl 1), (0, .inr (.inr (some 82))), (1, .inl (dp : Int))], [.inl 26, .inr (.inr (some 82))], (I, L, R, Y), 0, 0) (fun _ => rfl) ?_
        refine yi_D_callv rfl (q_hasWord_z (by omega) (by omega) hW hf hA) ?_
        rintro _ (⟨c162, I163, rfl, hGa164, hf165, hA166⟩ | ⟨c167, I168, rfl, hGa169, hf170, hA171⟩)
        · have hA166 : mt_A I163 te (a + 1) := hA166
          have hW172 := mt_W_t hW (mt_G_F hGa164)
          have hF173 := (mt_G_F hGa164)
          have hG174 := hGa164
          have hmc175 := mc_G hm hGa164
          show yi_D zi_Ms d zi_m117 k (93, [(3, .inl z2), (2, .inl 1), (0, .inr (.inr (some 82))), (1, .inl (dp : Int))], [.inl 1], (I163, L, R, Y), 0, 0) _
          refine yi_D_if1 false rfl (by decide) ?_
          refine yi_D_run 3 (99, [(3, .inl z2), (2, .inl 1), (0, .inr (.inr (some 82))), (1, .inl (dp : Int))], [.inl 1, .inl (dp : Int), .inr (.inr (some 82))], (I163, L, R, Y), 0, 0) (fun _ => rfl) ?_
          refine yi_D_iadd rfl ((dp : Int) + 1) (yi_wn (by omega) (by omega)) ?_
          have hst176 : sp_R K P V (12, a, dp, sk, ld, nm, cs) (.inl (12, a + 1, dp + 1, 5 :: sk, ld, nm, cs)) := sp_R_1 (by
            show sp_part K P V a dp sk ld nm cs = _
            first
            | (exfalso; omega)
            | (unfold sp_part; (repeat (first | rw [if_pos (by omega)] | rw [if_neg (by omega)])); done))
          refine yi_D_callv rfl (hRP (dp + 1) (5 :: sk) cs hW172 hf165 hA166 (by omega) hmc175) ?_
          rintro _ ⟨I177, rfl, hFr178, (⟨a179, cs180, hR181, lt182, hf183, hA184, hmc185, hwf186⟩ | ⟨f187, hR188, hz189, he190⟩)⟩
          · have hW191 := mt_W_t hW172 hFr178
            have hF192 := mt_F_t hF173 hFr178
            have hR193 : sp_R K P V (12, a, dp, sk, ld, nm, cs) (.inl (13, a179, dp, sk, ld, nm, cs180 ++ [(3, 0)])) := sp_R_s (sp_R_t hst176 hR181) rfl
            have hwf194 : wfX okP (21 - 4 * dp) cs cs180 := wfX_m hwf186 (by omega)
            show yi_D zi_Ms d zi_m117 k (103, [(3, .inl z2), (2, .inl 1), (0, .inr (.inr (some 82))), (1, .inl (dp : Int))], [], (I177, L, R, Y), 0, 0) _
            refine yi_D_run 3 (106, [(3, .inl z2), (2, .inl 1), (0, .inr (.inr (some 82))), (1, .inl (dp : Int))], [.inl 0, .inl 3, .inr (.inr (some 82))], (I177, L, R, Y), 0, 0) (fun _ => rfl) ?_
            refine yi_D_callv rfl (q_emitC hW191 hmc185) ?_
            rintro _ ⟨I195, rfl, hE196, hmc197⟩
            have hW198 := mt_W_t hW191 (mt_E_F hE196)
            have hF199 := mt_F_t hF192 (mt_E_F hE196)
            have hf200 : I195 82 8 = 0 := (hE196.1 82 8 (by omega)).trans hf183
            have hA201 : mt_A I195 te a179 := ⟨(hE196.1 82 7 (by omega)).trans hA184.1, hA184.2⟩
            have hwf202 : wfX okP (21 - 4 * dp) cs (cs180 ++ [(3, 0)]) := wfX_3 hwf194 (by omega) okP_3
            show yi_D zi_Ms d zi_m117 k (109, [(3, .inl z2), (2, .inl 1), (0, .inr (.inr (some 82))), (1, .inl (dp : Int))], [], (I195, L, R, Y), 0, 0) _
            refine yi_D_run 1 (178, [(3, .inl z2), (2, .inl 1), (0, .inr (.inr (some 82))), (1, .inl (dp : Int))], [], (I195, L, R, Y), 0, 0) (fun _ => rfl) ?_
            refine yi_D_retv rfl ?_
            exact ⟨_, rfl, hF199, Or.inl ⟨_, _, hR193, by omega, hf200, hA201, hmc197, hwf202⟩⟩
          · have hW203 := mt_W_t hW172 hFr178
            have hF204 := mt_F_t hF173 hFr178
            have hn205 : 0 < I177 82 8 := by rw [he190]; exact hz189
            have hx206 : sp_R K P V (12, a, dp, sk, ld, nm, cs) (.inr f187) := sp_R_t hst176 hR188
            show yi_D zi_Ms d zi_m117 k (103, [(3, .inl z2), (2, .inl 1), (0, .inr (.inr (some 82))), (1, .inl (dp : Int))], [], (I177, L, R, Y), 0, 0) _
            refine yi_D_run 3 (106, [(3, .inl z2), (2, .inl 1), (0, .inr (.inr (some 82))), (1, .inl (dp : Int))], [.inl 0, .inl 3, .inr (.inr (some 82))], (I177, L, R, Y), 0, 0) (fun _ => rfl) ?_
            refine yi_D_callv rfl (q_emit hW203) ?_
            rintro _ ⟨I207, rfl, hE208⟩
            have hW209 := mt_W_t hW203 (mt_E_F hE208)
            have hF210 := mt_F_t hF204 (mt_E_F hE208)
            have hf211 : 0 < I207 82 8 := by rw [hE208.1 82 8 (by omega)]; exact hn205
            have he212 := (hE208.1 82 8 (by omega)).trans he190
            show yi_D zi_Ms d zi_m117 k (109, [(3, .inl z2), (2, .inl 1), (0, .inr (.inr (some 82))), (1, .inl (dp : Int))], [], (I207, L, R, Y), 0, 0) _
            refine yi_D_run 1 (178, [(3, .inl z2), (2, .inl 1), (0, .inr (.inr (some 82))), (1, .inl (dp : Int))], [], (I207, L, R, Y), 0, 0) (fun _ => rfl) ?_
            refine yi_D_retv rfl ?_
            exact ⟨_, rfl, hF210, Or.inr ⟨_, hx206, hz189, he212⟩⟩
        · have hA171 : mt_A I168 te a := hA171
          have hW213 := mt_W_t hW (mt_G_F hGa169)
          have hF214 := (mt_G_F hGa169)
          have hG215 := hGa169
          have hmc216 := mc_G hm hGa169
          show yi_D zi_Ms d zi_m117 k (93, [(3, .inl z2), (2, .inl 1), (0, .inr (.inr (some 82))), (1, .inl (dp : Int))], [.inl 0], (I168, L, R, Y), 0, 0) _
          refine yi_D_if1 true rfl (by decide) ?_
          refine yi_D_run 2 (115, [(3, .inl z2), (2, .inl 1), (0, .inr (.inr (some 82))), (1, .inl (dp : Int))], [.inl 40, .inr (.inr (some 82))], (I168, L, R, Y), 0, 0) (fun _ => rfl) ?_
          refine yi_D_callv rfl (q_hasSign_z (by omega) hW213 hf170 hA171) ?_
          rintro _ (⟨c217, I218, rfl, hGa219, hf220, hA221⟩ | ⟨c222, I223, rfl, hGa224, hf225, hA226⟩)
          · have hA221 : mt_A I218 te (a + 1) := hA221
            have hW227 := mt_W_t hW213 (mt_G_F hGa219)
            have hF228 := mt_F_t hF214 (mt_G_F hGa219)
            have hG229 := mt_G_t hG215 hGa219
            have hmc230 := mc_G hmc216 hGa219
            show yi_D zi_Ms d zi_m117 k (118, [(3, .inl z2), (2, .inl 1), (0, .inr (.inr (some 82))), (1, .inl (dp : Int))], [.inl 1], (I218, L, R, Y), 0, 0) _
            refine yi_D_if1 false rfl (by decide) ?_
            refine yi_D_run 3 (124, [(3, .inl z2), (2, .inl 1), (0, .inr (.inr (some 82))), (1, .inl (dp : Int))], [.inl 1, .inl (dp : Int), .inr (.inr (some 82))], (I218, L, R, Y), 0, 0) (fun _ => rfl) ?_
            refine yi_D_iadd rfl ((dp : Int) + 1) (yi_wn (by omega) (by omega)) ?_
            have hst231 : sp_R K P V (12, a, dp, sk, ld, nm, cs) (.inl (8, a + 1, dp + 1, 6 :: sk, ld, nm, cs)) := sp_R_1 (by
              show sp_part K P V a dp sk ld nm cs = _
              first
              | (exfalso; omega)
              | (unfold sp_part; (repeat (first | rw [if_pos (by omega)] | rw [if_neg (by omega)])); done))
            refine yi_D_callv rfl (hRO (dp + 1) (6 :: sk) cs hW227 hf220 hA221 (by omega) hmc230) ?_
            rintro _ ⟨I232, rfl, hFr233, (⟨a234, cs235, hR236, lt237, hf238, hA239, hmc240, hwf241⟩ | ⟨f242, hR243, hz244, he245⟩)⟩
            · have hW246 := mt_W_t hW227 hFr233
              have hF247 := mt_F_t hF228 hFr233
              have hR248 := sp_R_t hst231 hR236
              have hwf249 : wfX okP (21 - 4 * dp) cs cs235 := wfX_m hwf241 (by omega)
              show yi_D zi_Ms d zi_m117 k (128, [(3, .inl z2), (2, .inl 1), (0, .inr (.inr (some 82))), (1, .inl (dp : Int))], [], (I232, L, R, Y), 0, 0) _
              refine yi_D_run 2 (131, [(3, .inl z2), (2, .inl 1), (0, .inr (.inr (some 82))), (1, .inl (dp : Int))], [.inl 41, .inr (.inr (some 82))], (I232, L, R, Y), 0, 0) (fun _ => rfl) ?_
              refine yi_D_callv rfl (q_takeSign_z (by omega) hW246 hf238 hA239) ?_
              rintro _ (⟨c250, I251, rfl, hGa252, hf253, hA254⟩ | ⟨c255, I256, rfl, hGa257, he258⟩)
              · have hA254 : mt_A I251 te (a234 + 1) := hA254
                have hW259 := mt_W_t hW246 (mt_G_F hGa252)
                have hF260 := mt_F_t hF247 (mt_G_F hGa252)
                have hmc261 := mc_G hmc240 hGa252
                have hR262 : sp_R K P V (12, a, dp, sk, ld, nm, cs) (.inl (13, a234 + 1, dp, sk, ld, nm, cs235)) := sp_R_s hR248 (by
                  show (if K _ = 41 then _ else _) = _
                  rw [if_pos (by omega)]
                  rfl)
                show yi_D zi_Ms d zi_m117 k (134, [(3, .inl z2), (2, .inl 1), (0, .inr (.inr (some 82))), (1, .inl (dp : Int))], [], (I251, L, R, Y), 0, 0) _
                refine yi_D_run 1 (178, [(3, .inl z2), (2, .inl 1), (0, .inr (.inr (some 82))), (1, .inl (dp : Int))], [], (I251, L, R, Y), 0, 0) (fun _ => rfl) ?_
                refine yi_D_retv rfl ?_
                exact ⟨_, rfl, hF260, Or.inl ⟨_, _, hR262, by omega, hf253, hA254, hmc261, hwf249⟩⟩
              · have hW263 := mt_W_t hW246 (mt_G_F hGa257)
                have hF264 := mt_F_t hF247 (mt_G_F hGa257)
                have hmc265 := mc_G hmc240 hGa257
                have hz266 : 0 < sp_f P a234 1 := mt_f_ne hW246 hA239.2 (by omega)
                have hn267 : 0 < I256 82 8 := by rw [he258]; exact hz266
                have hx268 : sp_R K P V (12, a, dp, sk, ld, nm, cs) (.inr (sp_f P a234 1)) := sp_R_s hR248 (by
                  show (if K _ = _ then _ else _) = _
                  rw [if_neg (by omega)])
                show yi_D zi_Ms d zi_m117 k (134, [(3, .inl z2), (2, .inl 1), (0, .inr (.inr (some 82))), (1, .inl (dp : Int))], [], (I256, L, R, Y), 0, 0) _
                refine yi_D_run 1 (178, [(3, .inl z2), (2, .inl 1), (0, .inr (.inr (some 82))), (1, .inl (dp : Int))], [], (I256, L, R, Y), 0, 0) (fun _ => rfl) ?_
                refine yi_D_retv rfl ?_
                exact ⟨_, rfl, hF264, Or.inr ⟨_, hx268, hz266, he258⟩⟩
            · have hW269 := mt_W_t hW227 hFr233
              have hF270 := mt_F_t hF228 hFr233
              have hn271 : 0 < I232 82 8 := by rw [he245]; exact hz244
              have hx272 : sp_R K P V (12, a, dp, sk, ld, nm, cs) (.inr f242) := sp_R_t hst231 hR243
              show yi_D zi_Ms d zi_m117 k (128, [(3, .inl z2), (2, .inl 1), (0, .inr (.inr (some 82))), (1, .inl (dp : Int))], [], (I232, L, R, Y), 0, 0) _
              refine yi_D_run 2 (131, [(3, .inl z2), (2, .inl 1), (0, .inr (.inr (some 82))), (1, .inl (dp : Int))], [.inl 41, .inr (.inr (some 82))], (I232, L, R, Y), 0, 0) (fun _ => rfl) ?_
              refine yi_D_callv rfl (q_takeSign_f hW269 hn271) ?_
              rintro _ rfl
              show yi_D zi_Ms d zi_m117 k (134, [(3, .inl z2), (2, .inl 1), (0, .inr (.inr (some 82))), (1, .inl (dp : Int))], [], (I232, L, R, Y), 0, 0) _
              refine yi_D_run 1 (178, [(3, .inl z2), (2, .inl 1), (0, .inr (.inr (some 82))), (1, .inl (dp : Int))], [], (I232, L, R, Y), 0, 0) (fun _ => rfl) ?_
              refine yi_D_retv rfl ?_
              exact ⟨_, rfl, hF270, Or.inr ⟨_, hx272, hz244, he245⟩⟩
          · have hA226 : mt_A I223 te a := hA226
            have hW273 := mt_W_t hW213 (mt_G_F hGa224)
            have hF274 := mt_F_t hF214 (mt_G_F hGa224)
            have hG275 := mt_G_t hG215 hGa224
            have hmc276 := mc_G hmc216 hGa224
            show yi_D zi_Ms d zi_m117 k (118, [(3, .inl z2), (2, .inl 1), (0, .inr (.inr (some 82))), (1, .inl (dp : Int))], [.inl 0], (I223, L, R, Y), 0, 0) _
            refine yi_D_if1 true rfl (by decide) ?_
            refine yi_D_run 2 (139, [(3, .inl z2), (2, .inl 1), (0, .inr (.inr (some 82))), (1, .inl (dp : Int))], [.inl 1, .inr (.inr (some 82))], (I223, L, R, Y), 0, 0) (fun _ => rfl) ?_
            refine yi_D_if1 false rfl (by decide) ?_
            refine yi_D_run 3 (148, [(3, .inl z2), (2, .inl 1), (0, .inr (.inr (some 82))), (1, .inl (dp : Int))], [.inl 1, .inl 1, .inr (.inr (some 82))], (I223, L, R, Y), 0, 0) (fun _ => rfl) ?_
            refine yi_D_if1 false rfl (by decide) ?_
            refine yi_D_run 1 (152, [(3, .inl z2), (2, .inl 1), (0, .inr (.inr (some 82))), (1, .inl (dp : Int))], [.inr (.inr (some 82)), .inl 1, .inr (.inr (some 82))], (I223, L, R, Y), 0, 0) (fun _ => rfl) ?_
            refine yi_D_gr (v := some 86) rfl rfl rfl (ym_S_at hS (j := 3) rfl).1 (fun _ => ?_)
            refine yi_D_run 1 (156, [(3, .inl z2), (2, .inl 1), (0, .inr (.inr (some 82))), (1, .inl (dp : Int))], [.inr (.inr (some 82)), .inr (.inr (some 86)), .inl 1, .inr (.inr (some 82))], (I223, L, R, Y), 0, 0) (fun _ => rfl) ?_
            refine yi_D_gi (v := (a : Int)) rfl rfl rfl hA226.1 (fun _ => ?_)
            refine yi_D_ll (v := L 86 a) rfl rfl rfl (fun _ _ => ?_)
            refine yi_D_run 2 (165, [(3, .inl z2), (2, .inl 1), (0, .inr (.inr (some 82))), (1, .inl (dp : Int))], [.inl (yi_w (L 86 a)), .inl 1, .inr (.inr (some 82))], (I223, L, R, Y), 0, 0) (fun _ => rfl) ?_
            refine yi_D_callv rfl (q_emitC hW273 hmc276) ?_
            rintro _ ⟨I277, rfl, hE278, hmc279⟩
            have hW280 := mt_W_t hW273 (mt_E_F hE278)
            have hF281 := mt_F_t hF274 (mt_E_F hE278)
            have hf282 : I277 82 8 = 0 := (hE278.1 82 8 (by omega)).trans hf225
            have hA283 : mt_A I277 te a := ⟨(hE278.1 82 7 (by omega)).trans hA226.1, hA226.2⟩
            have hmc279 : mc_S gg I277 (cs ++ [(if K a = 2 then ((1 : Int), V a) else (2, sp_fact (V a)))]) := by rw [show ((if K a = 2 then ((1 : Int), V a) else (2, sp_fact (V a))) : Int × Int) = (1, yi_w (L 86 a)) from (by rw [if_pos (by omega), show yi_w (L 86 a) = V a from by (rw [(hp.2.2.2.1 (by omega)).1]; exact yi_wn (by have := hp.2.2.2.1 (by omega); omega) (by have := hp.2.2.2.1 (by omega); omega))])]; exact hmc279
            have hwf284 : wfX okP (21 - 4 * dp) cs (cs ++ [(if K a = 2 then ((1 : Int), V a) else (2, sp_fact (V a)))]) := wfX_n (by omega) (fun h => (hp.2.2.2.1 h).2) (fun h => ⟨by omega, sp_fact_le2⟩)
            show yi_D zi_Ms d zi_m117 k (168, [(3, .inl z2), (2, .inl 1), (0, .inr (.inr (some 82))), (1, .inl (dp : Int))], [], (I277, L, R, Y), 0, 0) _
            refine yi_D_run 2 (170, [(3, .inl z2), (2, .inl 1), (0, .inr (.inr (some 82))), (1, .inl (dp : Int))], [.inr (.inr (some 82)), .inr (.inr (some 82))], (I277, L, R, Y), 0, 0) (fun _ => rfl) ?_
            refine yi_D_gi (v := (a : Int)) rfl rfl rfl hA283.1 (fun _ => ?_)
            refine yi_D_run 1 (174, [(3, .inl z2), (2, .inl 1), (0, .inr (.inr (some 82))), (1, .inl (dp : Int))], [.inl 1, .inl (a : Int), .inr (.inr (some 82))], (I277, L, R, Y), 0, 0) (fun _ => rfl) ?_
            refine yi_D_iadd rfl ((a : Int) + 1) (yi_wn (by omega) (by omega)) ?_
            refine yi_D_pi rfl (fun _ => ?_)
            generalize w286 : yi_u I277 82 7 ((a : Int) + 1) = I285
            have hGn287 : mt_G I277 I285 := fun p k hp => by rw [← w286, yi_u_ne _ _ (by omega)]
            have hW288 := mt_W_t hW280 (mt_G_F hGn287)
            have hF289 := mt_F_t hF281 (mt_G_F hGn287)
            have hmc290 := mc_G hmc279 hGn287
            have hf291 : I285 82 8 = 0 := by rw [← w286, yi_u_ne _ _ (by omega)]; exact hf282
            have hA292 : mt_A I285 te (a + 1) := ⟨by rw [← w286, yi_u_eq]; omega, mt_lt hW288.2.1 hA283.2 (by omega)⟩
            refine yi_D_retv rfl ?_
            have hst : sp_R K P V (12, a, dp, sk, ld, nm, cs) (.inl (13, a + 1, dp, sk, ld, nm, cs ++ [(if K a = 2 then ((1 : Int), V a) else (2, sp_fact (V a)))])) := sp_R_1 (by
              show sp_part K P V a dp sk ld nm cs = _
              first
              | (exfalso; omega)
              | (unfold sp_part; rw [if_neg (by omega), if_neg (by omega), if_neg (by omega), if_neg (by omega)]))
            exact ⟨_, rfl, hF289, Or.inl ⟨_, _, hst, by omega, hf291, hA292, hmc290, hwf284⟩⟩
  · refine yi_D_if2 true rfl (yi_ne_t h1) ?_
    refine yi_D_run 5 (31, [(2, .inl 0), (0, .inr (.inr (some 82))), (1, .inl (dp : Int))], [.inl 3, .inl 29, .inr (.inr (some 82))], (I, L, R, Y), 0, 0) (fun _ => rfl) ?_
    refine yi_D_callv rfl (q_wordHere_3 hW hf hA) ?_
    rintro _ ⟨z293, rfl, hz294⟩
    show yi_D zi_Ms d zi_m117 k (34, [(2, .inl 0), (0, .inr (.inr (some 82))), (1, .inl (dp : Int))], [.inl z293], (I, L, R, Y), 0, 0) _
    refine yi_D_run 2 (36, [(3, .inl z293), (2, .inl 0), (0, .inr (.inr (some 82))), (1, .inl (dp : Int))], [.inl z293], (I, L, R, Y), 0, 0) (fun _ => rfl) ?_
    by_cases h295 : 0 ≤ z293
    · refine yi_D_if1 true rfl (yi_ge_t h295) ?_
      refine yi_D_run 2 (71, [(3, .inl z293), (2, .inl 0), (0, .inr (.inr (some 82))), (1, .inl (dp : Int))], [.inl 5, .inl (dp : Int)], (I, L, R, Y), 0, 0) (fun _ => rfl) ?_
      by_cases h296 : (dp : Int) = 5
      · refine yi_D_if2 false rfl (yi_ne_f h296) ?_
        refine yi_D_run 2 (76, [(3, .inl z293), (2, .inl 0), (0, .inr (.inr (some 82))), (1, .inl (dp : Int))], [.inl 5, .inr (.inr (some 82))], (I, L, R, Y), 0, 0) (fun _ => rfl) ?_
        refine yi_D_callv rfl (q_wrong_z ⟨by omega, by omega⟩ hW hf hA) ?_
        rintro _ ⟨I297, rfl, hg298, he299⟩
        have hGw300 : mt_G I I297 := fun p k hp => hg298 p k (by omega)
        have hW301 := mt_W_t hW (mt_G_F hGw300)
        have hF302 := (mt_G_F hGw300)
        have hG303 := hGw300
        have hmc304 := mc_G hm hGw300
        have hz305 : 0 < sp_f P a 5 := mt_f_ne hW hA.2 (by omega)
        have hn306 : 0 < I297 82 8 := by rw [he299]; exact hz305
        have hx307 : sp_R K P V (12, a, dp, sk, ld, nm, cs) (.inr (sp_f P a 5)) := sp_R_1 (by
          show sp_part K P V a dp sk ld nm cs = _
          first
          | (exfalso; omega)
          | (unfold sp_part; (repeat (first | rw [if_pos (by omega)] | rw [if_neg (by omega)])); done))
        show yi_D zi_Ms d zi_m117 k (79, [(3, .inl z293), (2, .inl 0), (0, .inr (.inr (some 82))), (1, .inl (dp : Int))], [], (I297, L, R, Y), 0, 0) _
        refine yi_D_run 1 (80, [(3, .inl z293), (2, .inl 0), (0, .inr (.inr (some 82))), (1, .inl (dp : Int))], [.inr (.inr (some 82))], (I297, L, R, Y), 0, 0) (fun _ => rfl) ?_
        refine yi_D_gi (v := I297 82 8) rfl rfl rfl rfl (fun _ => ?_)
        have h308 : ¬ ((I297 82 8) ≤ 0) := by omega
        refine yi_D_if1 false rfl (yi_le_f h308) ?_
        refine yi_D_retv rfl ?_
        exact ⟨_, rfl, hF302, Or.inr ⟨_, hx307, hz305, he299⟩⟩
      · refine yi_D_if2 true rfl (yi_ne_t h296) ?_
        refine yi_D_run 1 (80, [(3, .inl z293), (2, .inl 0), (0, .inr (.inr (some 82))), (1, .inl (dp : Int))], [.inr (.inr (some 82))], (I, L, R, Y), 0, 0) (fun _ => rfl) ?_
        refine yi_D_gi (v := 0) rfl rfl rfl hf (fun _ => ?_)
        refine yi_D_if1 true rfl (by decide) ?_
        refine yi_D_run 2 (90, [(3, .inl z293), (2, .inl 0), (0, .inr (.inr (some 82))), (1, .inl (dp : Int))], [.inl 26, .inr (.inr (some 82))], (I, L, R, Y), 0, 0) (fun _ => rfl) ?_
        refine yi_D_callv rfl (q_hasWord_z (by omega) (by omega) hW hf hA) ?_
        rintro _ (⟨c309, I310, rfl, hGa311, hf312, hA313⟩ | ⟨c314, I315, rfl, hGa316, hf317, hA318⟩)
        · have hA313 : mt_A I310 te (a + 1) := hA313
          have hW319 := mt_W_t hW (mt_G_F hGa311)
          have hF320 := (mt_G_F hGa311)
          have hG321 := hGa311
          have hmc322 := mc_G hm hGa311
          show yi_D zi_Ms d zi_m117 k (93, [(3, .inl z293), (2, .inl 0), (0, .inr (.inr (some 82))), (1, .inl (dp : Int))], [.inl 1], (I310, L, R, Y), 0, 0) _
          refine yi_D_if1 false rfl (by decide) ?_
          refine yi_D_run 3 (99, [(3, .inl z293), (2, .inl 0), (0, .inr (.inr (some 82))), (1, .inl (dp : Int))], [.inl 1, .inl (dp : Int), .inr (.inr (some 82))], (I310, L, R, Y), 0, 0) (fun _ => rfl) ?_
          refine yi_D_iadd rfl ((dp : Int) + 1) (yi_wn (by omega) (by omega)) ?_
          have hst323 : sp_R K P V (12, a, dp, sk, ld, nm, cs) (.inl (12, a + 1, dp + 1, 5 :: sk, ld, nm, cs)) := sp_R_1 (by
            show sp_part K P V a dp sk ld nm cs = _
            first
            | (exfalso; omega)
            | (unfold sp_part; (repeat (first | rw [if_pos (by omega)] | rw [if_neg (by omega)])); done))
          refine yi_D_callv rfl (hRP (dp + 1) (5 :: sk) cs hW319 hf312 hA313 (by omega) hmc322) ?_
          rintro _ ⟨I324, rfl, hFr325, (⟨a326, cs327, hR328, lt329, hf330, hA331, hmc332, hwf333⟩ | ⟨f334, hR335, hz336, he337⟩)⟩
          · have hW338 := mt_W_t hW319 hFr325
            have hF339 := mt_F_t hF320 hFr325
            have hR340 : sp_R K P V (12, a, dp, sk, ld, nm, cs) (.inl (13, a326, dp, sk, ld, nm, cs327 ++ [(3, 0)])) := sp_R_s (sp_R_t hst323 hR328) rfl
            have hwf341 : wfX okP (21 - 4 * dp) cs cs327 := wfX_m hwf333 (by omega)
            show yi_D zi_Ms d zi_m117 k (103, [(3, .inl z293), (2, .inl 0), (0, .inr (.inr (some 82))), (1, .inl (dp : Int))], [], (I324, L, R, Y), 0, 0) _
            refine yi_D_run 3 (106, [(3, .inl z293), (2, .inl 0), (0, .inr (.inr (some 82))), (1, .inl (dp : Int))], [.inl 0, .inl 3, .inr (.inr (some 82))], (I324, L, R, Y), 0, 0) (fun _ => rfl) ?_
            refine yi_D_callv rfl (q_emitC hW338 hmc332) ?_
            rintro _ ⟨I342, rfl, hE343, hmc344⟩
            have hW345 := mt_W_t hW338 (mt_E_F hE343)
            have hF346 := mt_F_t hF339 (mt_E_F hE343)
            have hf347 : I342 82 8 = 0 := (hE343.1 82 8 (by omega)).trans hf330
            have hA348 : mt_A I342 te a326 := ⟨(hE343.1 82 7 (by omega)).trans hA331.1, hA331.2⟩
            have hwf349 : wfX okP (21 - 4 * dp) cs (cs327 ++ [(3, 0)]) := wfX_3 hwf341 (by omega) okP_3
            show yi_D zi_Ms d zi_m117 k (109, [(3, .inl z293), (2, .inl 0), (0, .inr (.inr (some 82))), (1, .inl (dp : Int))], [], (I342, L, R, Y), 0, 0) _
            refine yi_D_run 1 (178, [(3, .inl z293), (2, .inl 0), (0, .inr (.inr (some 82))), (1, .inl (dp : Int))], [], (I342, L, R, Y), 0, 0) (fun _ => rfl) ?_
            refine yi_D_retv rfl ?_
            exact ⟨_, rfl, hF346, Or.inl ⟨_, _, hR340, by omega, hf347, hA348, hmc344, hwf349⟩⟩
          · have hW350 := mt_W_t hW319 hFr325
            have hF351 := mt_F_t hF320 hFr325
            have hn352 : 0 < I324 82 8 := by rw [he337]; exact hz336
            have hx353 : sp_R K P V (12, a, dp, sk, ld, nm, cs) (.inr f334) := sp_R_t hst323 hR335
            show yi_D zi_Ms d zi_m117 k (103, [(3, .inl z293), (2, .inl 0), (0, .inr (.inr (some 82))), (1, .inl (dp : Int))], [], (I324, L, R, Y), 0, 0) _
            refine yi_D_run 3 (106, [(3, .inl z293), (2, .inl 0), (0, .inr (.inr (some 82))), (1, .inl (dp : Int))], [.inl 0, .inl 3, .inr (.inr (some 82))], (I324, L, R, Y), 0, 0) (fun _ => rfl) ?_
            refine yi_D_callv rfl (q_emit hW350) ?_
            rintro _ ⟨I354, rfl, hE355⟩
            have hW356 := mt_W_t hW350 (mt_E_F hE355)
            have hF357 := mt_F_t hF351 (mt_E_F hE355)
            have hf358 : 0 < I354 82 8 := by rw [hE355.1 82 8 (by omega)]; exact hn352
            have he359 := (hE355.1 82 8 (by omega)).trans he337
            show yi_D zi_Ms d zi_m117 k (109, [(3, .inl z293), (2, .inl 0), (0, .inr (.inr (some 82))), (1, .inl (dp : Int))], [], (I354, L, R, Y), 0, 0) _
            refine yi_D_run 1 (178, [(3, .inl z293), (2, .inl 0), (0, .inr (.inr (some 82))), (1, .inl (dp : Int))], [], (I354, L, R, Y), 0, 0) (fun _ => rfl) ?_
            refine yi_D_retv rfl ?_
            exact ⟨_, rfl, hF357, Or.inr ⟨_, hx353, hz336, he359⟩⟩
        · have hA318 : mt_A I315 te a := hA318
          have hW360 := mt_W_t hW (mt_G_F hGa316)
          have hF361 := (mt_G_F hGa316)
          have hG362 := hGa316
          have hmc363 := mc_G hm hGa316
          show yi_D zi_Ms d zi_m117 k (93, [(3, .inl z293), (2, .inl 0), (0, .inr (.inr (some 82))), (1, .inl (dp : Int))], [.inl 0], (I315, L, R, Y), 0, 0) _
          refine yi_D_if1 true rfl (by decide) ?_
          refine yi_D_run 2 (115, [(3, .inl z293), (2, .inl 0), (0, .inr (.inr (some 82))), (1, .inl (dp : Int))], [.inl 40, .inr (.inr (some 82))], (I315, L, R, Y), 0, 0) (fun _ => rfl) ?_
          refine yi_D_callv rfl (q_hasSign_z (by omega) hW360 hf317 hA318) ?_
          rintro _ (⟨c364, I365, rfl, hGa366, hf367, hA368⟩ | ⟨c369, I370, rfl, hGa371, hf372, hA373⟩)
          · have hA368 : mt_A I365 te (a + 1) := hA368
            have hW374 := mt_W_t hW360 (mt_G_F hGa366)
            have hF375 := mt_F_t hF361 (mt_G_F hGa366)
            have hG376 := mt_G_t hG362 hGa366
            have hmc377 := mc_G hmc363 hGa366
            show yi_D zi_Ms d zi_m117 k (118, [(3, .inl z293), (2, .inl 0), (0, .inr (.inr (some 82))), (1, .inl (dp : Int))], [.inl 1], (I365, L, R, Y), 0, 0) _
            refine yi_D_if1 false rfl (by decide) ?_
            refine yi_D_run 3 (124, [(3, .inl z293), (2, .inl 0), (0, .inr (.inr (some 82))), (1, .inl (dp : Int))], [.inl 1, .inl (dp : Int), .inr (.inr (some 82))], (I365, L, R, Y), 0, 0) (fun _ => rfl) ?_
            refine yi_D_iadd rfl ((dp : Int) + 1) (yi_wn (by omega) (by omega)) ?_
            have hst378 : sp_R K P V (12, a, dp, sk, ld, nm, cs) (.inl (8, a + 1, dp + 1, 6 :: sk, ld, nm, cs)) := sp_R_1 (by
              show sp_part K P V a dp sk ld nm cs = _
              first
              | (exfalso; omega)
              | (unfold sp_part; (repeat (first | rw [if_pos (by omega)] | rw [if_neg (by omega)])); done))
            refine yi_D_callv rfl (hRO (dp + 1) (6 :: sk) cs hW374 hf367 hA368 (by omega) hmc377) ?_
            rintro _ ⟨I379, rfl, hFr380, (⟨a381, cs382, hR383, lt384, hf385, hA386, hmc387, hwf388⟩ | ⟨f389, hR390, hz391, he392⟩)⟩
            · have hW393 := mt_W_t hW374 hFr380
              have hF394 := mt_F_t hF375 hFr380
              have hR395 := sp_R_t hst378 hR383
              have hwf396 : wfX okP (21 - 4 * dp) cs cs382 := wfX_m hwf388 (by omega)
              show yi_D zi_Ms d zi_m117 k (128, [(3, .inl z293), (2, .inl 0), (0, .inr (.inr (some 82))), (1, .inl (dp : Int))], [], (I379, L, R, Y), 0, 0) _
              refine yi_D_run 2 (131, [(3, .inl z293), (2, .inl 0), (0, .inr (.inr (some 82))), (1, .inl (dp : Int))], [.inl 41, .inr (.inr (some 82))], (I379, L, R, Y), 0, 0) (fun _ => rfl) ?_
              refine yi_D_callv rfl (q_takeSign_z (by omega) hW393 hf385 hA386) ?_
              rintro _ (⟨c397, I398, rfl, hGa399, hf400, hA401⟩ | ⟨c402, I403, rfl, hGa404, he405⟩)
              · have hA401 : mt_A I398 te (a381 + 1) := hA401
                have hW406 := mt_W_t hW393 (mt_G_F hGa399)
                have hF407 := mt_F_t hF394 (mt_G_F hGa399)
                have hmc408 := mc_G hmc387 hGa399
                have hR409 : sp_R K P V (12, a, dp, sk, ld, nm, cs) (.inl (13, a381 + 1, dp, sk, ld, nm, cs382)) := sp_R_s hR395 (by
                  show (if K _ = 41 then _ else _) = _
                  rw [if_pos (by omega)]
                  rfl)
                show yi_D zi_Ms d zi_m117 k (134, [(3, .inl z293), (2, .inl 0), (0, .inr (.inr (some 82))), (1, .inl (dp : Int))], [], (I398, L, R, Y), 0, 0) _
                refine yi_D_run 1 (178, [(3, .inl z293), (2, .inl 0), (0, .inr (.inr (some 82))), (1, .inl (dp : Int))], [], (I398, L, R, Y), 0, 0) (fun _ => rfl) ?_
                refine yi_D_retv rfl ?_
                exact ⟨_, rfl, hF407, Or.inl ⟨_, _, hR409, by omega, hf400, hA401, hmc408, hwf396⟩⟩
              · have hW410 := mt_W_t hW393 (mt_G_F hGa404)
                have hF411 := mt_F_t hF394 (mt_G_F hGa404)
                have hmc412 := mc_G hmc387 hGa404
                have hz413 : 0 < sp_f P a381 1 := mt_f_ne hW393 hA386.2 (by omega)
                have hn414 : 0 < I403 82 8 := by rw [he405]; exact hz413
                have hx415 : sp_R K P V (12, a, dp, sk, ld, nm, cs) (.inr (sp_f P a381 1)) := sp_R_s hR395 (by
                  show (if K _ = _ then _ else _) = _
                  rw [if_neg (by omega)])
                show yi_D zi_Ms d zi_m117 k (134, [(3, .inl z293), (2, .inl 0), (0, .inr (.inr (some 82))), (1, .inl (dp : Int))], [], (I403, L, R, Y), 0, 0) _
                refine yi_D_run 1 (178, [(3, .inl z293), (2, .inl 0), (0, .inr (.inr (some 82))), (1, .inl (dp : Int))], [], (I403, L, R, Y), 0, 0) (fun _ => rfl) ?_
                refine yi_D_retv rfl ?_
                exact ⟨_, rfl, hF411, Or.inr ⟨_, hx415, hz413, he405⟩⟩
            · have hW416 := mt_W_t hW374 hFr380
              have hF417 := mt_F_t hF375 hFr380
              have hn418 : 0 < I379 82 8 := by rw [he392]; exact hz391
              have hx419 : sp_R K P V (12, a, dp, sk, ld, nm, cs) (.inr f389) := sp_R_t hst378 hR390
              show yi_D zi_Ms d zi_m117 k (128, [(3, .inl z293), (2, .inl 0), (0, .inr (.inr (some 82))), (1, .inl (dp : Int))], [], (I379, L, R, Y), 0, 0) _
              refine yi_D_run 2 (131, [(3, .inl z293), (2, .inl 0), (0, .inr (.inr (some 82))), (1, .inl (dp : Int))], [.inl 41, .inr (.inr (some 82))], (I379, L, R, Y), 0, 0) (fun _ => rfl) ?_
              refine yi_D_callv rfl (q_takeSign_f hW416 hn418) ?_
              rintro _ rfl
              show yi_D zi_Ms d zi_m117 k (134, [(3, .inl z293), (2, .inl 0), (0, .inr (.inr (some 82))), (1, .inl (dp : Int))], [], (I379, L, R, Y), 0, 0) _
              refine yi_D_run 1 (178, [(3, .inl z293), (2, .inl 0), (0, .inr (.inr (some 82))), (1, .inl (dp : Int))], [], (I379, L, R, Y), 0, 0) (fun _ => rfl) ?_
              refine yi_D_retv rfl ?_
              exact ⟨_, rfl, hF417, Or.inr ⟨_, hx419, hz391, he392⟩⟩
          · have hA373 : mt_A I370 te a := hA373
            have hW420 := mt_W_t hW360 (mt_G_F hGa371)
            have hF421 := mt_F_t hF361 (mt_G_F hGa371)
            have hG422 := mt_G_t hG362 hGa371
            have hmc423 := mc_G hmc363 hGa371
            show yi_D zi_Ms d zi_m117 k (118, [(3, .inl z293), (2, .inl 0), (0, .inr (.inr (some 82))), (1, .inl (dp : Int))], [.inl 0], (I370, L, R, Y), 0, 0) _
            refine yi_D_if1 true rfl (by decide) ?_
            refine yi_D_run 2 (139, [(3, .inl z293), (2, .inl 0), (0, .inr (.inr (some 82))), (1, .inl (dp : Int))], [.inl 0, .inr (.inr (some 82))], (I370, L, R, Y), 0, 0) (fun _ => rfl) ?_
            refine yi_D_if1 true rfl (by decide) ?_
            refine yi_D_run 2 (148, [(3, .inl z293), (2, .inl 0), (0, .inr (.inr (some 82))), (1, .inl (dp : Int))], [.inl 0, .inl 2, .inr (.inr (some 82))], (I370, L, R, Y), 0, 0) (fun _ => rfl) ?_
            refine yi_D_if1 true rfl (by decide) ?_
            refine yi_D_run 1 (165, [(3, .inl z293), (2, .inl 0), (0, .inr (.inr (some 82))), (1, .inl (dp : Int))], [.inl z293, .inl 2, .inr (.inr (some 82))], (I370, L, R, Y), 0, 0) (fun _ => rfl) ?_
            refine yi_D_callv rfl (q_emitC hW420 hmc423) ?_
            rintro _ ⟨I424, rfl, hE425, hmc426⟩
            have hW427 := mt_W_t hW420 (mt_E_F hE425)
            have hF428 := mt_F_t hF421 (mt_E_F hE425)
            have hf429 : I424 82 8 = 0 := (hE425.1 82 8 (by omega)).trans hf372
            have hA430 : mt_A I424 te a := ⟨(hE425.1 82 7 (by omega)).trans hA373.1, hA373.2⟩
            have hmc426 : mc_S gg I424 (cs ++ [(if K a = 2 then ((1 : Int), V a) else (2, sp_fact (V a)))]) := by rw [show ((if K a = 2 then ((1 : Int), V a) else (2, sp_fact (V a))) : Int × Int) = (2, z293) from (by rw [if_neg (by omega), show z293 = sp_fact (V a) from hz294.1 (by omega)])]; exact hmc426
            have hwf431 : wfX okP (21 - 4 * dp) cs (cs ++ [(if K a = 2 then ((1 : Int), V a) else (2, sp_fact (V a)))]) := wfX_n (by omega) (fun h => (hp.2.2.2.1 h).2) (fun h => ⟨by omega, sp_fact_le2⟩)
            show yi_D zi_Ms d zi_m117 k (168, [(3, .inl z293), (2, .inl 0), (0, .inr (.inr (some 82))), (1, .inl (dp : Int))], [], (I424, L, R, Y), 0, 0) _
            refine yi_D_run 2 (170, [(3, .inl z293), (2, .inl 0), (0, .inr (.inr (some 82))), (1, .inl (dp : Int))], [.inr (.inr (some 82)), .inr (.inr (some 82))], (I424, L, R, Y), 0, 0) (fun _ => rfl) ?_
            refine yi_D_gi (v := (a : Int)) rfl rfl rfl hA430.1 (fun _ => ?_)
            refine yi_D_run 1 (174, [(3, .inl z293), (2, .inl 0), (0, .inr (.inr (some 82))), (1, .inl (dp : Int))], [.inl 1, .inl (a : Int), .inr (.inr (some 82))], (I424, L, R, Y), 0, 0) (fun _ => rfl) ?_
            refine yi_D_iadd rfl ((a : Int) + 1) (yi_wn (by omega) (by omega)) ?_
            refine yi_D_pi rfl (fun _ => ?_)
            generalize w433 : yi_u I424 82 7 ((a : Int) + 1) = I432
            have hGn434 : mt_G I424 I432 := fun p k hp => by rw [← w433, yi_u_ne _ _ (by omega)]
            have hW435 := mt_W_t hW427 (mt_G_F hGn434)
            have hF436 := mt_F_t hF428 (mt_G_F hGn434)
            have hmc437 := mc_G hmc426 hGn434
            have hf438 : I432 82 8 = 0 := by rw [← w433, yi_u_ne _ _ (by omega)]; exact hf429
            have hA439 : mt_A I432 te (a + 1) := ⟨by rw [← w433, yi_u_eq]; omega, mt_lt hW435.2.1 hA430.2 (by omega)⟩
            refine yi_D_retv rfl ?_
            have hst : sp_R K P V (12, a, dp, sk, ld, nm, cs) (.inl (13, a + 1, dp, sk, ld, nm, cs ++ [(if K a = 2 then ((1 : Int), V a) else (2, sp_fact (V a)))])) := sp_R_1 (by
              show sp_part K P V a dp sk ld nm cs = _
              first
              | (exfalso; omega)
              | (unfold sp_part; rw [if_neg (by omega), if_neg (by omega), if_neg (by omega), if_neg (by omega)]))
            exact ⟨_, rfl, hF436, Or.inl ⟨_, _, hst, by omega, hf438, hA439, hmc437, hwf431⟩⟩
    · refine yi_D_if1 false rfl (yi_ge_f h295) ?_
      refine yi_D_run 1 (40, [(3, .inl z293), (2, .inl 0), (0, .inr (.inr (some 82))), (1, .inl (dp : Int))], [.inl 0], (I, L, R, Y), 0, 0) (fun _ => rfl) ?_
      refine yi_D_if1 false rfl (by decide) ?_
      refine yi_D_run 2 (46, [(3, .inl z293), (2, .inl 0), (0, .inr (.inr (some 82))), (1, .inl (dp : Int))], [.inl 40, .inr (.inr (some 82))], (I, L, R, Y), 0, 0) (fun _ => rfl) ?_
      refine yi_D_callv rfl (q_isSign_z (by omega) hW hf hA) ?_
      rintro _ (⟨c440, rfl⟩ | ⟨c440, rfl⟩)
      · show yi_D zi_Ms d zi_m117 k (49, [(3, .inl z293), (2, .inl 0), (0, .inr (.inr (some 82))), (1, .inl (dp : Int))], [.inl 1], (I, L, R, Y), 0, 0) _
        refine yi_D_if1 true rfl (by decide) ?_
        refine yi_D_run 2 (71, [(3, .inl z293), (2, .inl 0), (0, .inr (.inr (some 82))), (1, .inl (dp : Int))], [.inl 5, .inl (dp : Int)], (I, L, R, Y), 0, 0) (fun _ => rfl) ?_
        by_cases h441 : (dp : Int) = 5
        · refine yi_D_if2 false rfl (yi_ne_f h441) ?_
          refine yi_D_run 2 (76, [(3, .inl z293), (2, .inl 0), (0, .inr (.inr (some 82))), (1, .inl (dp : Int))], [.inl 5, .inr (.inr (some 82))], (I, L, R, Y), 0, 0) (fun _ => rfl) ?_
          refine yi_D_callv rfl (q_wrong_z ⟨by omega, by omega⟩ hW hf hA) ?_
          rintro _ ⟨I442, rfl, hg443, he444⟩
          have hGw445 : mt_G I I442 := fun p k hp => hg443 p k (by omega)
          have hW446 := mt_W_t hW (mt_G_F hGw445)
          have hF447 := (mt_G_F hGw445)
          have hG448 := hGw445
          have hmc449 := mc_G hm hGw445
          have hz450 : 0 < sp_f P a 5 := mt_f_ne hW hA.2 (by omega)
          have hn451 : 0 < I442 82 8 := by rw [he444]; exact hz450
          have hx452 : sp_R K P V (12, a, dp, sk, ld, nm, cs) (.inr (sp_f P a 5)) := sp_R_1 (by
            show sp_part K P V a dp sk ld nm cs = _
            first
            | (exfalso; omega)
            | (unfold sp_part; (repeat (first | rw [if_pos (by omega)] | rw [if_neg (by omega)])); done))
          show yi_D zi_Ms d zi_m117 k (79, [(3, .inl z293), (2, .inl 0), (0, .inr (.inr (some 82))), (1, .inl (dp : Int))], [], (I442, L, R, Y), 0, 0) _
          refine yi_D_run 1 (80, [(3, .inl z293), (2, .inl 0), (0, .inr (.inr (some 82))), (1, .inl (dp : Int))], [.inr (.inr (some 82))], (I442, L, R, Y), 0, 0) (fun _ => rfl) ?_
          refine yi_D_gi (v := I442 82 8) rfl rfl rfl rfl (fun _ => ?_)
          have h453 : ¬ ((I442 82 8) ≤ 0) := by omega
          refine yi_D_if1 false rfl (yi_le_f h453) ?_
          refine yi_D_retv rfl ?_
          exact ⟨_, rfl, hF447, Or.inr ⟨_, hx452, hz450, he444⟩⟩
        · refine yi_D_if2 true rfl (yi_ne_t h441) ?_
          refine yi_D_run 1 (80, [(3, .inl z293), (2, .inl 0), (0, .inr (.inr (some 82))), (1, .inl (dp : Int))], [.inr (.inr (some 82))], (I, L, R, Y), 0, 0) (fun _ => rfl) ?_
          refine yi_D_gi (v := 0) rfl rfl rfl hf (fun _ => ?_)
          refine yi_D_if1 true rfl (by decide) ?_
          refine yi_D_run 2 (90, [(3, .inl z293), (2, .inl 0), (0, .inr (.inr (some 82))), (1, .inl (dp : Int))], [.inl 26, .inr (.inr (some 82))], (I, L, R, Y), 0, 0) (fun _ => rfl) ?_
          refine yi_D_callv rfl (q_hasWord_z (by omega) (by omega) hW hf hA) ?_
          rintro _ (⟨c454, I455, rfl, hGa456, hf457, hA458⟩ | ⟨c459, I460, rfl, hGa461, hf462, hA463⟩)
          · exfalso; omega
          · have hA463 : mt_A I460 te a := hA463
            have hW464 := mt_W_t hW (mt_G_F hGa461)
            have hF465 := (mt_G_F hGa461)
            have hG466 := hGa461
            have hmc467 := mc_G hm hGa461
            show yi_D zi_Ms d zi_m117 k (93, [(3, .inl z293), (2, .inl 0), (0, .inr (.inr (some 82))), (1, .inl (dp : Int))], [.inl 0], (I460, L, R, Y), 0, 0) _
            refine yi_D_if1 true rfl (by decide) ?_
            refine yi_D_run 2 (115, [(3, .inl z293), (2, .inl 0), (0, .inr (.inr (some 82))), (1, .inl (dp : Int))], [.inl 40, .inr (.inr (some 82))], (I460, L, R, Y), 0, 0) (fun _ => rfl) ?_
            refine yi_D_callv rfl (q_hasSign_z (by omega) hW464 hf462 hA463) ?_
            rintro _ (⟨c468, I469, rfl, hGa470, hf471, hA472⟩ | ⟨c473, I474, rfl, hGa475, hf476, hA477⟩)
            · have hA472 : mt_A I469 te (a + 1) := hA472
              have hW478 := mt_W_t hW464 (mt_G_F hGa470)
              have hF479 := mt_F_t hF465 (mt_G_F hGa470)
              have hG480 := mt_G_t hG466 hGa470
              have hmc481 := mc_G hmc467 hGa470
              show yi_D zi_Ms d zi_m117 k (118, [(3, .inl z293), (2, .inl 0), (0, .inr (.inr (some 82))), (1, .inl (dp : Int))], [.inl 1], (I469, L, R, Y), 0, 0) _
              refine yi_D_if1 false rfl (by decide) ?_
              refine yi_D_run 3 (124, [(3, .inl z293), (2, .inl 0), (0, .inr (.inr (some 82))), (1, .inl (dp : Int))], [.inl 1, .inl (dp : Int), .inr (.inr (some 82))], (I469, L, R, Y), 0, 0) (fun _ => rfl) ?_
              refine yi_D_iadd rfl ((dp : Int) + 1) (yi_wn (by omega) (by omega)) ?_
              have hst482 : sp_R K P V (12, a, dp, sk, ld, nm, cs) (.inl (8, a + 1, dp + 1, 6 :: sk, ld, nm, cs)) := sp_R_1 (by
                show sp_part K P V a dp sk ld nm cs = _
                first
                | (exfalso; omega)
                | (unfold sp_part; (repeat (first | rw [if_pos (by omega)] | rw [if_neg (by omega)])); done))
              refine yi_D_callv rfl (hRO (dp + 1) (6 :: sk) cs hW478 hf471 hA472 (by omega) hmc481) ?_
              rintro _ ⟨I483, rfl, hFr484, (⟨a485, cs486, hR487, lt488, hf489, hA490, hmc491, hwf492⟩ | ⟨f493, hR494, hz495, he496⟩)⟩
              · have hW497 := mt_W_t hW478 hFr484
                have hF498 := mt_F_t hF479 hFr484
                have hR499 := sp_R_t hst482 hR487
                have hwf500 : wfX okP (21 - 4 * dp) cs cs486 := wfX_m hwf492 (by omega)
                show yi_D zi_Ms d zi_m117 k (128, [(3, .inl z293), (2, .inl 0), (0, .inr (.inr (some 82))), (1, .inl (dp : Int))], [], (I483, L, R, Y), 0, 0) _
                refine yi_D_run 2 (131, [(3, .inl z293), (2, .inl 0), (0, .inr (.inr (some 82))), (1, .inl (dp : Int))], [.inl 41, .inr (.inr (some 82))], (I483, L, R, Y), 0, 0) (fun _ => rfl) ?_
                refine yi_D_callv rfl (q_takeSign_z (by omega) hW497 hf489 hA490) ?_
                rintro _ (⟨c501, I502, rfl, hGa503, hf504, hA505⟩ | ⟨c506, I507, rfl, hGa508, he509⟩)
                · have hA505 : mt_A I502 te (a485 + 1) := hA505
                  have hW510 := mt_W_t hW497 (mt_G_F hGa503)
                  have hF511 := mt_F_t hF498 (mt_G_F hGa503)
                  have hmc512 := mc_G hmc491 hGa503
                  have hR513 : sp_R K P V (12, a, dp, sk, ld, nm, cs) (.inl (13, a485 + 1, dp, sk, ld, nm, cs486)) := sp_R_s hR499 (by
                    show (if K _ = 41 then _ else _) = _
                    rw [if_pos (by omega)]
                    rfl)
                  show yi_D zi_Ms d zi_m117 k (134, [(3, .inl z293), (2, .inl 0), (0, .inr (.inr (some 82))), (1, .inl (dp : Int))], [], (I502, L, R, Y), 0, 0) _
                  refine yi_D_run 1 (178, [(3, .inl z293), (2, .inl 0), (0, .inr (.inr (some 82))), (1, .inl (dp : Int))], [], (I502, L, R, Y), 0, 0) (fun _ => rfl) ?_
                  refine yi_D_retv rfl ?_
                  exact ⟨_, rfl, hF511, Or.inl ⟨_, _, hR513, by omega, hf504, hA505, hmc512, hwf500⟩⟩
                · have hW514 := mt_W_t hW497 (mt_G_F hGa508)
                  have hF515 := mt_F_t hF498 (mt_G_F hGa508)
                  have hmc516 := mc_G hmc491 hGa508
                  have hz517 : 0 < sp_f P a485 1 := mt_f_ne hW497 hA490.2 (by omega)
                  have hn518 : 0 < I507 82 8 := by rw [he509]; exact hz517
                  have hx519 : sp_R K P V (12, a, dp, sk, ld, nm, cs) (.inr (sp_f P a485 1)) := sp_R_s hR499 (by
                    show (if K _ = _ then _ else _) = _
                    rw [if_neg (by omega)])
                  show yi_D zi_Ms d zi_m117 k (134, [(3, .inl z293), (2, .inl 0), (0, .inr (.inr (some 82))), (1, .inl (dp : Int))], [], (I507, L, R, Y), 0, 0) _
                  refine yi_D_run 1 (178, [(3, .inl z293), (2, .inl 0), (0, .inr (.inr (some 82))), (1, .inl (dp : Int))], [], (I507, L, R, Y), 0, 0) (fun _ => rfl) ?_
                  refine yi_D_retv rfl ?_
                  exact ⟨_, rfl, hF515, Or.inr ⟨_, hx519, hz517, he509⟩⟩
              · have hW520 := mt_W_t hW478 hFr484
                have hF521 := mt_F_t hF479 hFr484
                have hn522 : 0 < I483 82 8 := by rw [he496]; exact hz495
                have hx523 : sp_R K P V (12, a, dp, sk, ld, nm, cs) (.inr f493) := sp_R_t hst482 hR494
                show yi_D zi_Ms d zi_m117 k (128, [(3, .inl z293), (2, .inl 0), (0, .inr (.inr (some 82))), (1, .inl (dp : Int))], [], (I483, L, R, Y), 0, 0) _
                refine yi_D_run 2 (131, [(3, .inl z293), (2, .inl 0), (0, .inr (.inr (some 82))), (1, .inl (dp : Int))], [.inl 41, .inr (.inr (some 82))], (I483, L, R, Y), 0, 0) (fun _ => rfl) ?_
                refine yi_D_callv rfl (q_takeSign_f hW520 hn522) ?_
                rintro _ rfl
                show yi_D zi_Ms d zi_m117 k (134, [(3, .inl z293), (2, .inl 0), (0, .inr (.inr (some 82))), (1, .inl (dp : Int))], [], (I483, L, R, Y), 0, 0) _
                refine yi_D_run 1 (178, [(3, .inl z293), (2, .inl 0), (0, .inr (.inr (some 82))), (1, .inl (dp : Int))], [], (I483, L, R, Y), 0, 0) (fun _ => rfl) ?_
                refine yi_D_retv rfl ?_
                exact ⟨_, rfl, hF521, Or.inr ⟨_, hx523, hz495, he496⟩⟩
            · exfalso; omega
      · show yi_D zi_Ms d zi_m117 k (49, [(3, .inl z293), (2, .inl 0), (0, .inr (.inr (some 82))), (1, .inl (dp : Int))], [.inl 0], (I, L, R, Y), 0, 0) _
        refine yi_D_if1 false rfl (by decide) ?_
        refine yi_D_run 2 (55, [(3, .inl z293), (2, .inl 0), (0, .inr (.inr (some 82))), (1, .inl (dp : Int))], [.inl 26, .inr (.inr (some 82))], (I, L, R, Y), 0, 0) (fun _ => rfl) ?_
        refine yi_D_callv rfl (q_isWord_z (by omega) (by omega) hW hf hA) ?_
        rintro _ (⟨c524, rfl⟩ | ⟨c524, rfl⟩)
        · show yi_D zi_Ms d zi_m117 k (58, [(3, .inl z293), (2, .inl 0), (0, .inr (.inr (some 82))), (1, .inl (dp : Int))], [.inl 1], (I, L, R, Y), 0, 0) _
          refine yi_D_if1 true rfl (by decide) ?_
          refine yi_D_run 2 (71, [(3, .inl z293), (2, .inl 0), (0, .inr (.inr (some 82))), (1, .inl (dp : Int))], [.inl 5, .inl (dp : Int)], (I, L, R, Y), 0, 0) (fun _ => rfl) ?_
          by_cases h525 : (dp : Int) = 5
          · refine yi_D_if2 false rfl (yi_ne_f h525) ?_
            refine yi_D_run 2 (76, [(3, .inl z293), (2, .inl 0), (0, .inr (.inr (some 82))), (1, .inl (dp : Int))], [.inl 5, .inr (.inr (some 82))], (I, L, R, Y), 0, 0) (fun _ => rfl) ?_
            refine yi_D_callv rfl (q_wrong_z ⟨by omega, by omega⟩ hW hf hA) ?_
            rintro _ ⟨I526, rfl, hg527, he528⟩
            have hGw529 : mt_G I I526 := fun p k hp => hg527 p k (by omega)
            have hW530 := mt_W_t hW (mt_G_F hGw529)
            have hF531 := (mt_G_F hGw529)
            have hG532 := hGw529
            have hmc533 := mc_G hm hGw529
            have hz534 : 0 < sp_f P a 5 := mt_f_ne hW hA.2 (by omega)
            have hn535 : 0 < I526 82 8 := by rw [he528]; exact hz534
            have hx536 : sp_R K P V (12, a, dp, sk, ld, nm, cs) (.inr (sp_f P a 5)) := sp_R_1 (by
              show sp_part K P V a dp sk ld nm cs = _
              first
              | (exfalso; omega)
              | (unfold sp_part; (repeat (first | rw [if_pos (by omega)] | rw [if_neg (by omega)])); done))
            show yi_D zi_Ms d zi_m117 k (79, [(3, .inl z293), (2, .inl 0), (0, .inr (.inr (some 82))), (1, .inl (dp : Int))], [], (I526, L, R, Y), 0, 0) _
            refine yi_D_run 1 (80, [(3, .inl z293), (2, .inl 0), (0, .inr (.inr (some 82))), (1, .inl (dp : Int))], [.inr (.inr (some 82))], (I526, L, R, Y), 0, 0) (fun _ => rfl) ?_
            refine yi_D_gi (v := I526 82 8) rfl rfl rfl rfl (fun _ => ?_)
            have h537 : ¬ ((I526 82 8) ≤ 0) := by omega
            refine yi_D_if1 false rfl (yi_le_f h537) ?_
            refine yi_D_retv rfl ?_
            exact ⟨_, rfl, hF531, Or.inr ⟨_, hx536, hz534, he528⟩⟩
          · refine yi_D_if2 true rfl (yi_ne_t h525) ?_
            refine yi_D_run 1 (80, [(3, .inl z293), (2, .inl 0), (0, .inr (.inr (some 82))), (1, .inl (dp : Int))], [.inr (.inr (some 82))], (I, L, R, Y), 0, 0) (fun _ => rfl) ?_
            refine yi_D_gi (v := 0) rfl rfl rfl hf (fun _ => ?_)
            refine yi_D_if1 true rfl (by decide) ?_
            refine yi_D_run 2 (90, [(3, .inl z293), (2, .inl 0), (0, .inr (.inr (some 82))), (1, .inl (dp : Int))], [.inl 26, .inr (.inr (some 82))], (I, L, R, Y), 0, 0) (fun _ => rfl) ?_
            refine yi_D_callv rfl (q_hasWord_z (by omega) (by omega) hW hf hA) ?_
            rintro _ (⟨c538, I539, rfl, hGa540, hf541, hA542⟩ | ⟨c543, I544, rfl, hGa545, hf546, hA547⟩)
            · have hA542 : mt_A I539 te (a + 1) := hA542
              have hW548 := mt_W_t hW (mt_G_F hGa540)
              have hF549 := (mt_G_F hGa540)
              have hG550 := hGa540
              have hmc551 := mc_G hm hGa540
              show yi_D zi_Ms d zi_m117 k (93, [(3, .inl z293), (2, .inl 0), (0, .inr (.inr (some 82))), (1, .inl (dp : Int))], [.inl 1], (I539, L, R, Y), 0, 0) _
              refine yi_D_if1 false rfl (by decide) ?_
              refine yi_D_run 3 (99, [(3, .inl z293), (2, .inl 0), (0, .inr (.inr (some 82))), (1, .inl (dp : Int))], [.inl 1, .inl (dp : Int), .inr (.inr (some 82))], (I539, L, R, Y), 0, 0) (fun _ => rfl) ?_
              refine yi_D_iadd rfl ((dp : Int) + 1) (yi_wn (by omega) (by omega)) ?_
              have hst552 : sp_R K P V (12, a, dp, sk, ld, nm, cs) (.inl (12, a + 1, dp + 1, 5 :: sk, ld, nm, cs)) := sp_R_1 (by
                show sp_part K P V a dp sk ld nm cs = _
                first
                | (exfalso; omega)
                | (unfold sp_part; (repeat (first | rw [if_pos (by omega)] | rw [if_neg (by omega)])); done))
              refine yi_D_callv rfl (hRP (dp + 1) (5 :: sk) cs hW548 hf541 hA542 (by omega) hmc551) ?_
              rintro _ ⟨I553, rfl, hFr554, (⟨a555, cs556, hR557, lt558, hf559, hA560, hmc561, hwf562⟩ | ⟨f563, hR564, hz565, he566⟩)⟩
              · have hW567 := mt_W_t hW548 hFr554
                have hF568 := mt_F_t hF549 hFr554
                have hR569 : sp_R K P V (12, a, dp, sk, ld, nm, cs) (.inl (13, a555, dp, sk, ld, nm, cs556 ++ [(3, 0)])) := sp_R_s (sp_R_t hst552 hR557) rfl
                have hwf570 : wfX okP (21 - 4 * dp) cs cs556 := wfX_m hwf562 (by omega)
                show yi_D zi_Ms d zi_m117 k (103, [(3, .inl z293), (2, .inl 0), (0, .inr (.inr (some 82))), (1, .inl (dp : Int))], [], (I553, L, R, Y), 0, 0) _
                refine yi_D_run 3 (106, [(3, .inl z293), (2, .inl 0), (0, .inr (.inr (some 82))), (1, .inl (dp : Int))], [.inl 0, .inl 3, .inr (.inr (some 82))], (I553, L, R, Y), 0, 0) (fun _ => rfl) ?_
                refine yi_D_callv rfl (q_emitC hW567 hmc561) ?_
                rintro _ ⟨I571, rfl, hE572, hmc573⟩
                have hW574 := mt_W_t hW567 (mt_E_F hE572)
                have hF575 := mt_F_t hF568 (mt_E_F hE572)
                have hf576 : I571 82 8 = 0 := (hE572.1 82 8 (by omega)).trans hf559
                have hA577 : mt_A I571 te a555 := ⟨(hE572.1 82 7 (by omega)).trans hA560.1, hA560.2⟩
                have hwf578 : wfX okP (21 - 4 * dp) cs (cs556 ++ [(3, 0)]) := wfX_3 hwf570 (by omega) okP_3
                show yi_D zi_Ms d zi_m117 k (109, [(3, .inl z293), (2, .inl 0), (0, .inr (.inr (some 82))), (1, .inl (dp : Int))], [], (I571, L, R, Y), 0, 0) _
                refine yi_D_run 1 (178, [(3, .inl z293), (2, .inl 0), (0, .inr (.inr (some 82))), (1, .inl (dp : Int))], [], (I571, L, R, Y), 0, 0) (fun _ => rfl) ?_
                refine yi_D_retv rfl ?_
                exact ⟨_, rfl, hF575, Or.inl ⟨_, _, hR569, by omega, hf576, hA577, hmc573, hwf578⟩⟩
              · have hW579 := mt_W_t hW548 hFr554
                have hF580 := mt_F_t hF549 hFr554
                have hn581 : 0 < I553 82 8 := by rw [he566]; exact hz565
                have hx582 : sp_R K P V (12, a, dp, sk, ld, nm, cs) (.inr f563) := sp_R_t hst552 hR564
                show yi_D zi_Ms d zi_m117 k (103, [(3, .inl z293), (2, .inl 0), (0, .inr (.inr (some 82))), (1, .inl (dp : Int))], [], (I553, L, R, Y), 0, 0) _
                refine yi_D_run 3 (106, [(3, .inl z293), (2, .inl 0), (0, .inr (.inr (some 82))), (1, .inl (dp : Int))], [.inl 0, .inl 3, .inr (.inr (some 82))], (I553, L, R, Y), 0, 0) (fun _ => rfl) ?_
                refine yi_D_callv rfl (q_emit hW579) ?_
                rintro _ ⟨I583, rfl, hE584⟩
                have hW585 := mt_W_t hW579 (mt_E_F hE584)
                have hF586 := mt_F_t hF580 (mt_E_F hE584)
                have hf587 : 0 < I583 82 8 := by rw [hE584.1 82 8 (by omega)]; exact hn581
                have he588 := (hE584.1 82 8 (by omega)).trans he566
                show yi_D zi_Ms d zi_m117 k (109, [(3, .inl z293), (2, .inl 0), (0, .inr (.inr (some 82))), (1, .inl (dp : Int))], [], (I583, L, R, Y), 0, 0) _
                refine yi_D_run 1 (178, [(3, .inl z293), (2, .inl 0), (0, .inr (.inr (some 82))), (1, .inl (dp : Int))], [], (I583, L, R, Y), 0, 0) (fun _ => rfl) ?_
                refine yi_D_retv rfl ?_
                exact ⟨_, rfl, hF586, Or.inr ⟨_, hx582, hz565, he588⟩⟩
            · exfalso; omega
        · show yi_D zi_Ms d zi_m117 k (58, [(3, .inl z293), (2, .inl 0), (0, .inr (.inr (some 82))), (1, .inl (dp : Int))], [.inl 0], (I, L, R, Y), 0, 0) _
          refine yi_D_if1 false rfl (by decide) ?_
          refine yi_D_run 2 (63, [(3, .inl z293), (2, .inl 0), (0, .inr (.inr (some 82))), (1, .inl (dp : Int))], [.inl 1, .inr (.inr (some 82))], (I, L, R, Y), 0, 0) (fun _ => rfl) ?_
          refine yi_D_callv rfl (q_wrong_z ⟨by omega, by omega⟩ hW hf hA) ?_
          rintro _ ⟨I589, rfl, hg590, he591⟩
          have hGw592 : mt_G I I589 := fun p k hp => hg590 p k (by omega)
          have hW593 := mt_W_t hW (mt_G_F hGw592)
          have hF594 := (mt_G_F hGw592)
          have hG595 := hGw592
          have hmc596 := mc_G hm hGw592
          have hz597 : 0 < sp_f P a 1 := mt_f_ne hW hA.2 (by omega)
          have hn598 : 0 < I589 82 8 := by rw [he591]; exact hz597
          have hx599 : sp_R K P V (12, a, dp, sk, ld, nm, cs) (.inr (sp_f P a 1)) := sp_R_1 (by
            show sp_part K P V a dp sk ld nm cs = _
            first
            | (exfalso; omega)
            | (unfold sp_part; (repeat (first | rw [if_pos (by omega)] | rw [if_neg (by omega)])); done))
          show yi_D zi_Ms d zi_m117 k (66, [(3, .inl z293), (2, .inl 0), (0, .inr (.inr (some 82))), (1, .inl (dp : Int))], [], (I589, L, R, Y), 0, 0) _
          refine yi_D_run 2 (80, [(3, .inl z293), (2, .inl 0), (0, .inr (.inr (some 82))), (1, .inl (dp : Int))], [.inr (.inr (some 82))], (I589, L, R, Y), 0, 0) (fun _ => rfl) ?_
          refine yi_D_gi (v := I589 82 8) rfl rfl rfl rfl (fun _ => ?_)
          have h600 : ¬ ((I589 82 8) ≤ 0) := by omega
          refine yi_D_if1 false rfl (yi_le_f h600) ?_
          refine yi_D_retv rfl ?_
          exact ⟨_, rfl, hF594, Or.inr ⟨_, hx599, hz597, he591⟩⟩
theorem q_productsC_s {d : Nat} {I L : Nat → Nat → Int} {R : Nat → Nat → Option Nat} {Y : (Nat → Nat) × (Nat → Nat) × Nat} (hRP : mt_RPC d) {K P V : Nat → Int} {te b a : Nat} {ld : Nat → Int} {nm : Int → Int} (hW : mt_W I L R Y K P V te b ld nm) (hf : I 82 8 = 0) (hA : mt_A I te a) (dp : Nat) (sk : List Nat) (cs : List (Int × Int)) (hd : dp ≤ 5) {gg : Nat → Int × Int} (hm : mc_S gg I cs) : yi_P zi_Ms (d + 1) 89 [.inr (.inr (some 82)), .inl (dp : Int)] (I, L, R, Y) (mt_QRC gg I L R Y K P V te (11, a, dp, sk, ld, nm, cs) 13 a dp sk ld nm okP (22 - 4 * dp) cs) := by
  refine yi_P_s (M := zi_m89) rfl (fun k => ?_)
  have hS := hW.1
  have ht := hW.2.1.1
  have ha := hA.2
  have hp := hW.2.1.2.1 a hA.2
  show yi_D zi_Ms d zi_m89 k (0, [(0, .inr (.inr (some 82))), (1, .inl (dp : Int))], [], (I, L, R, Y), 0, 0) _
  refine yi_D_run 2 (2, [(0, .inr (.inr (some 82))), (1, .inl (dp : Int))], [.inl (dp : Int), .inr (.inr (some 82))], (I, L, R, Y), 0, 0) (fun _ => rfl) ?_
  have hst1 : sp_R K P V (11, a, dp, sk, ld, nm, cs) (.inl (12, a, dp, 33 :: sk, ld, nm, cs)) := sp_R_1 rfl
  refine yi_D_callv rfl (hRP dp (33 :: sk) cs hW hf hA (by omega) hm) ?_
  rintro _ ⟨I2, rfl, hFr3, (⟨a4, cs5, hR6, lt7, hf8, hA9, hmc10, hwf11⟩ | ⟨f12, hR13, hz14, he15⟩)⟩
  · have hW16 := mt_W_t hW hFr3
    have hF17 := hFr3
    have hR18 := sp_R_t hst1 hR6
    have hwf19 : wfX okP (22 - 4 * dp) cs cs5 := wfX_m hwf11 (by omega)
    show yi_D zi_Ms d zi_m89 k (5, [(0, .inr (.inr (some 82))), (1, .inl (dp : Int))], [], (I2, L, R, Y), 0, 0) _
    have pt5 : ∀ j5, j5 ≤ k → ∀ (J1 : Nat → Nat → Int) (a1 : Nat) (cs1 : List (Int × Int)), (a < a1) → (mt_F I J1) → (J1 82 8 = 0) → (mt_A J1 te a1) → (sp_R K P V (11, a, dp, sk, ld, nm, cs) (.inl (13, a1, dp, 33 :: sk, ld, nm, cs1))) → (mc_S gg J1 cs1) → (wfX okP (22 - 4 * dp) cs cs1) → yi_D zi_Ms d zi_m89 j5 (5, [(0, .inr (.inr (some 82))), (1, .inl (dp : Int))], [], (J1, L, R, Y), 0, 0) (mt_QRC gg I L R Y K P V te (11, a, dp, sk, ld, nm, cs) 13 a dp sk ld nm okP (22 - 4 * dp) cs) := by
      intro j5
      induction j5 with
      | zero => intros; exact yi_D_0
      | succ j5 ih5 =>
      intro hk5 J1 a1 cs1 lt9 hF9 hf9 hA9 hR9 hm9 hwf9
      have hW9 := mt_W_t hW hF9
      have hle9 := hA9.2
      have hte9 := hW.2.1.1
      refine yi_D_run1 1 (8, [(0, .inr (.inr (some 82))), (1, .inl (dp : Int))], [.inl 42, .inr (.inr (some 82))], (J1, L, R, Y), 0, 0) (fun _ => rfl) ?_
      refine yi_D_callv rfl (q_hasSign_z (by omega) hW9 hf9 hA9) ?_
      rintro _ (⟨c20, I21, rfl, hGa22, hf23, hA24⟩ | ⟨c25, I26, rfl, hGa27, hf28, hA29⟩)
      · have hA24 : mt_A I21 te (a1 + 1) := hA24
        have hW30 := mt_W_t hW9 (mt_G_F hGa22)
        have hF31 := mt_F_t hF9 (mt_G_F hGa22)
        have hmc32 := mc_G hm9 hGa22
        show yi_D zi_Ms d zi_m89 j5 (11, [(0, .inr (.inr (some 82))), (1, .inl (dp : Int))], [.inl 1], (I21, L, R, Y), 0, 0) _
        refine yi_D_if1 false rfl (by decide) ?_
        refine yi_D_run 2 (16, [(0, .inr (.inr (some 82))), (1, .inl (dp : Int))], [.inl (dp : Int), .inr (.inr (some 82))], (I21, L, R, Y), 0, 0) (fun _ => rfl) ?_
        have hli := sp_lev_i (K a1)
        have hst33 : sp_R K P V (11, a, dp, sk, ld, nm, cs) (.inl (12, a1 + 1, dp, (100 + 8 * (K a1).toNat + 3) :: sk, ld, nm, cs1)) := sp_R_s hR9 ((sp_st13 (l := 3) (by omega)).trans (if_pos (by omega)))
        refine yi_D_callv rfl (hRP dp ((100 + 8 * (K a1).toNat + 3) :: sk) cs1 hW30 hf23 hA24 (by omega) hmc32) ?_
        rintro _ ⟨I34, rfl, hFr35, (⟨a36, cs37, hR38, lt39, hf40, hA41, hmc42, hwf43⟩ | ⟨f44, hR45, hz46, he47⟩)⟩
        · have hW48 := mt_W_t hW30 hFr35
          have hF49 := mt_F_t hF31 hFr35
          have hR50 := sp_R_s (sp_R_t hst33 hR38) (sp_st13b (l := 3) (by omega) (by omega))
          show yi_D zi_Ms d zi_m89 j5 (19, [(0, .inr (.inr (some 82))), (1, .inl (dp : Int))], [], (I34, L, R, Y), 0, 0) _
          refine yi_D_run 3 (23, [(0, .inr (.inr (some 82))), (1, .inl (dp : Int))], [.inl 0, .inl 6, .inr (.inr (some 82))], (I34, L, R, Y), 0, 0) (fun _ => rfl) ?_
          refine yi_D_callv rfl (q_emitC hW48 hmc42) ?_
          rintro _ ⟨I51, rfl, hE52, hmc53⟩
          have hW54 := mt_W_t hW48 (mt_E_F hE52)
          have hF55 := mt_F_t hF49 (mt_E_F hE52)
          have hf56 : I51 82 8 = 0 := (hE52.1 82 8 (by omega)).trans hf40
          have hA57 : mt_A I51 te a36 := ⟨(hE52.1 82 7 (by omega)).trans hA41.1, hA41.2⟩
          have hmc53 : mc_S gg I51 (cs37 ++ [(sp_sg (K a1).toNat, 0)]) := by rw [show ((sp_sg (K a1).toNat, 0) : Int × Int) = (6, 0) from (by rw [show (K a1).toNat = 42 by omega]; rfl)]; exact hmc53
          have hwf58 : wfX okP (22 - 4 * dp) cs (cs37 ++ [(sp_sg (K a1).toNat, 0)]) := wfX_2 hwf9 hwf43 (by omega) sp_sg_b okP_sg
          show yi_D zi_Ms d zi_m89 j5 (26, [(0, .inr (.inr (some 82))), (1, .inl (dp : Int))], [], (I51, L, R, Y), 0, 0) _
          refine yi_D_run 1 (5, [(0, .inr (.inr (some 82))), (1, .inl (dp : Int))], [], (I51, L, R, Y), 0, 0) (fun _ => rfl) ?_
          exact yi_D_mono (ih5 (by omega) I51 a36 (cs37 ++ [(sp_sg (K a1).toNat, 0)]) (by omega) hF55 hf56 hA57 hR50 hmc53 hwf58) (by omega)
        · have hW59 := mt_W_t hW30 hFr35
          have hF60 := mt_F_t hF31 hFr35
          have hn61 : 0 < I34 82 8 := by rw [he47]; exact hz46
          have hx62 : sp_R K P V (11, a, dp, sk, ld, nm, cs) (.inr f44) := sp_R_t hst33 hR45
          show yi_D zi_Ms d zi_m89 j5 (19, [(0, .inr (.inr (some 82))), (1, .inl (dp : Int))], [], (I34, L, R, Y), 0, 0) _
          refine yi_D_run 3 (23, [(0, .inr (.inr (some 82))), (1, .inl (dp : Int))], [.inl 0, .inl 6, .inr (.inr (some 82))], (I34, L, R, Y), 0, 0) (fun _ => rfl) ?_
          refine yi_D_callv rfl (q_emit hW59) ?_
          rintro _ ⟨I63, rfl, hE64⟩
          have hW65 := mt_W_t hW59 (mt_E_F hE64)
          have hF66 := mt_F_t hF60 (mt_E_F hE64)
          have hf67 : 0 < I63 82 8 := by rw [hE64.1 82 8 (by omega)]; exact hn61
          have he68 := (hE64.1 82 8 (by omega)).trans he47
          show yi_D zi_Ms d zi_m89 j5 (26, [(0, .inr (.inr (some 82))), (1, .inl (dp : Int))], [], (I63, L, R, Y), 0, 0) _
          refine yi_D_run 1 (5, [(0, .inr (.inr (some 82))), (1, .inl (dp : Int))], [], (I63, L, R, Y), 0, 0) (fun _ => rfl) ?_
          refine yi_D_run 2 (8, [(0, .inr (.inr (some 82))), (1, .inl (dp : Int))], [.inl 42, .inr (.inr (some 82))], (I63, L, R, Y), 0, 0) (fun _ => rfl) ?_
          refine yi_D_callv rfl (q_hasSign_f hW65 hf67) ?_
          rintro _ ⟨I69, rfl, hGa70, hq71⟩
          have hW72 := mt_W_t hW65 (mt_G_F hGa70)
          have hF73 := mt_F_t hF66 (mt_G_F hGa70)
          have hf74 : 0 < I69 82 8 := by rw [hq71]; exact hf67
          have he75 := hq71.trans he68
          show yi_D zi_Ms d zi_m89 j5 (11, [(0, .inr (.inr (some 82))), (1, .inl (dp : Int))], [.inl 0], (I69, L, R, Y), 0, 0) _
          refine yi_D_if1 true rfl (by decide) ?_
          refine yi_D_retv rfl ?_
          exact ⟨_, rfl, hF73, Or.inr ⟨_, hx62, hz46, he75⟩⟩
      · have hA29 : mt_A I26 te a1 := hA29
        have hW76 := mt_W_t hW9 (mt_G_F hGa27)
        have hF77 := mt_F_t hF9 (mt_G_F hGa27)
        have hmc78 := mc_G hm9 hGa27
        show yi_D zi_Ms d zi_m89 j5 (11, [(0, .inr (.inr (some 82))), (1, .inl (dp : Int))], [.inl 0], (I26, L, R, Y), 0, 0) _
        refine yi_D_if1 true rfl (by decide) ?_
        refine yi_D_retv rfl ?_
        have hli := sp_lev_i (K a1)
        have hstd := sp_R_s hR9 ((sp_st13 (l := 3) (by omega)).trans (if_neg (by omega)))
        exact ⟨_, rfl, hF77, Or.inl ⟨_, _, hstd, by omega, hf28, hA29, hmc78, hwf9⟩⟩
    exact pt5 k (Nat.le_refl _) I2 a4 cs5 (by omega) hF17 hf8 hA9 hR18 hmc10 hwf19
  · have hW79 := mt_W_t hW hFr3
    have hF80 := hFr3
    have hn81 : 0 < I2 82 8 := by rw [he15]; exact hz14
    have hx82 : sp_R K P V (11, a, dp, sk, ld, nm, cs) (.inr f12) := sp_R_t hst1 hR13
    show yi_D zi_Ms d zi_m89 k (5, [(0, .inr (.inr (some 82))), (1, .inl (dp : Int))], [], (I2, L, R, Y), 0, 0) _
    refine yi_D_run 2 (8, [(0, .inr (.inr (some 82))), (1, .inl (dp : Int))], [.inl 42, .inr (.inr (some 82))], (I2, L, R, Y), 0, 0) (fun _ => rfl) ?_
    refine yi_D_callv rfl (q_hasSign_f hW79 hn81) ?_
    rintro _ ⟨I83, rfl, hGa84, hq85⟩
    have hW86 := mt_W_t hW79 (mt_G_F hGa84)
    have hF87 := mt_F_t hF80 (mt_G_F hGa84)
    have hf88 : 0 < I83 82 8 := by rw [hq85]; exact hn81
    have he89 := hq85.trans he15
    show yi_D zi_Ms d zi_m89 k (11, [(0, .inr (.inr (some 82))), (1, .inl (dp : Int))], [.inl 0], (I83, L, R, Y), 0, 0) _
    refine yi_D_if1 true rfl (by decide) ?_
    refine yi_D_retv rfl ?_
    exact ⟨_, rfl, hF87, Or.inr ⟨_, hx82, hz14, he89⟩⟩
theorem q_sumsC_s {d : Nat} {I L : Nat → Nat → Int} {R : Nat → Nat → Option Nat} {Y : (Nat → Nat) × (Nat → Nat) × Nat} (hRD : mt_RDC d) {K P V : Nat → Int} {te b a : Nat} {ld : Nat → Int} {nm : Int → Int} (hW : mt_W I L R Y K P V te b ld nm) (hf : I 82 8 = 0) (hA : mt_A I te a) (dp : Nat) (sk : List Nat) (cs : List (Int × Int)) (hd : dp ≤ 5) {gg : Nat → Int × Int} (hm : mc_S gg I cs) : yi_P zi_Ms (d + 1) 114 [.inr (.inr (some 82)), .inl (dp : Int)] (I, L, R, Y) (mt_QRC gg I L R Y K P V te (10, a, dp, sk, ld, nm, cs) 13 a dp sk ld nm okP (23 - 4 * dp) cs) := by
  refine yi_P_s (M := zi_m114) rfl (fun k => ?_)
  have hS := hW.1
  have ht := hW.2.1.1
  have ha := hA.2
  have hp := hW.2.1.2.1 a hA.2
  show yi_D zi_Ms d zi_m114 k (0, [(0, .inr (.inr (some 82))), (1, .inl (dp : Int))], [], (I, L, R, Y), 0, 0) _
  refine yi_D_run 2 (2, [(0, .inr (.inr (some 82))), (1, .inl (dp : Int))], [.inl (dp : Int), .inr (.inr (some 82))], (I, L, R, Y), 0, 0) (fun _ => rfl) ?_
  have hst1 : sp_R K P V (10, a, dp, sk, ld, nm, cs) (.inl (11, a, dp, 32 :: sk, ld, nm, cs)) := sp_R_1 rfl
  refine yi_D_callv rfl (hRD dp (32 :: sk) cs hW hf hA (by omega) hm) ?_
  rintro _ ⟨I2, rfl, hFr3, (⟨a4, cs5, hR6, lt7, hf8, hA9, hmc10, hwf11⟩ | ⟨f12, hR13, hz14, he15⟩)⟩
  · have hW16 := mt_W_t hW hFr3
    have hF17 := hFr3
    have hR18 := sp_R_t hst1 hR6
    have hwf19 : wfX okP (23 - 4 * dp) cs cs5 := wfX_m hwf11 (by omega)
    show yi_D zi_Ms d zi_m114 k (5, [(0, .inr (.inr (some 82))), (1, .inl (dp : Int))], [], (I2, L, R, Y), 0, 0) _
    have pt5 : ∀ j5, j5 ≤ k → ∀ (y2 : Int) (J1 : Nat → Nat → Int) (a1 : Nat) (cs1 : List (Int × Int)), (a < a1) → (mt_F I J1) → (J1 82 8 = 0) → (mt_A J1 te a1) → (sp_R K P V (10, a, dp, sk, ld, nm, cs) (.inl (13, a1, dp, 32 :: sk, ld, nm, cs1))) → (mc_S gg J1 cs1) → (wfX okP (23 - 4 * dp) cs cs1) → yi_D zi_Ms d zi_m114 j5 (5, [(0, .inr (.inr (some 82))), (1, .inl (dp : Int)), (2, .inl y2)], [], (J1, L, R, Y), 0, 0) (mt_QRC gg I L R Y K P V te (10, a, dp, sk, ld, nm, cs) 13 a dp sk ld nm okP (23 - 4 * dp) cs) := by
      intro j5
      induction j5 with
      | zero => intros; exact yi_D_0
      | succ j5 ih5 =>
      intro hk5 y2 J1 a1 cs1 lt9 hF9 hf9 hA9 hR9 hm9 hwf9
      have hW9 := mt_W_t hW hF9
      have hle9 := hA9.2
      have hte9 := hW.2.1.1
      refine yi_D_run1 1 (8, [(0, .inr (.inr (some 82))), (1, .inl (dp : Int)), (2, .inl y2)], [.inl 43, .inr (.inr (some 82))], (J1, L, R, Y), 0, 0) (fun _ => rfl) ?_
      refine yi_D_callv rfl (q_isSign_z (by omega) hW9 hf9 hA9) ?_
      rintro _ (⟨c20, rfl⟩ | ⟨c20, rfl⟩)
      · show yi_D zi_Ms d zi_m114 j5 (11, [(0, .inr (.inr (some 82))), (1, .inl (dp : Int)), (2, .inl y2)], [.inl 1], (J1, L, R, Y), 0, 0) _
        refine yi_D_if1 true rfl (by decide) ?_
        refine yi_D_run 2 (26, [(0, .inr (.inr (some 82))), (1, .inl (dp : Int)), (2, .inl y2)], [.inl 43, .inr (.inr (some 82))], (J1, L, R, Y), 0, 0) (fun _ => rfl) ?_
        refine yi_D_callv rfl (q_isSign_z (by omega) hW9 hf9 hA9) ?_
        rintro _ (⟨c21, rfl⟩ | ⟨c21, rfl⟩)
        · show yi_D zi_Ms d zi_m114 j5 (29, [(0, .inr (.inr (some 82))), (1, .inl (dp : Int)), (2, .inl y2)], [.inl 1], (J1, L, R, Y), 0, 0) _
          refine yi_D_run 3 (32, [(2, .inl 1), (0, .inr (.inr (some 82))), (1, .inl (dp : Int))], [.inr (.inr (some 82)), .inr (.inr (some 82))], (J1, L, R, Y), 0, 0) (fun _ => rfl) ?_
          refine yi_D_gi (v := (a1 : Int)) rfl rfl rfl hA9.1 (fun _ => ?_)
          refine yi_D_run 1 (36, [(2, .inl 1), (0, .inr (.inr (some 82))), (1, .inl (dp : Int))], [.inl 1, .inl (a1 : Int), .inr (.inr (some 82))], (J1, L, R, Y), 0, 0) (fun _ => rfl) ?_
          refine yi_D_iadd rfl ((a1 : Int) + 1) (yi_wn (by omega) (by omega)) ?_
          refine yi_D_pi rfl (fun _ => ?_)
          generalize w23 : yi_u J1 82 7 ((a1 : Int) + 1) = I22
          have hGn24 : mt_G J1 I22 := fun p k hp => by rw [← w23, yi_u_ne _ _ (by omega)]
          have hW25 := mt_W_t hW9 (mt_G_F hGn24)
          have hF26 := mt_F_t hF9 (mt_G_F hGn24)
          have hmc27 := mc_G hm9 hGn24
          have hf28 : I22 82 8 = 0 := by rw [← w23, yi_u_ne _ _ (by omega)]; exact hf9
          have hA29 : mt_A I22 te (a1 + 1) := ⟨by rw [← w23, yi_u_eq]; omega, mt_lt hW25.2.1 hA9.2 (by omega)⟩
          refine yi_D_run 2 (42, [(2, .inl 1), (0, .inr (.inr (some 82))), (1, .inl (dp : Int))], [.inl (dp : Int), .inr (.inr (some 82))], (I22, L, R, Y), 0, 0) (fun _ => rfl) ?_
          have hli := sp_lev_i (K a1)
          have hst30 : sp_R K P V (10, a, dp, sk, ld, nm, cs) (.inl (11, a1 + 1, dp, (100 + 8 * (K a1).toNat + 2) :: sk, ld, nm, cs1)) := sp_R_s hR9 ((sp_st13 (l := 2) (by omega)).trans (if_pos (by omega)))
          refine yi_D_callv rfl (hRD dp ((100 + 8 * (K a1).toNat + 2) :: sk) cs1 hW25 hf28 hA29 (by omega) hmc27) ?_
          rintro _ ⟨I31, rfl, hFr32, (⟨a33, cs34, hR35, lt36, hf37, hA38, hmc39, hwf40⟩ | ⟨f41, hR42, hz43, he44⟩)⟩
          · have hW45 := mt_W_t hW25 hFr32
            have hF46 := mt_F_t hF26 hFr32
            have hR47 := sp_R_s (sp_R_t hst30 hR35) (sp_st13b (l := 2) (by omega) (by omega))
            show yi_D zi_Ms d zi_m114 j5 (45, [(2, .inl 1), (0, .inr (.inr (some 82))), (1, .inl (dp : Int))], [], (I31, L, R, Y), 0, 0) _
            refine yi_D_run 2 (47, [(2, .inl 1), (0, .inr (.inr (some 82))), (1, .inl (dp : Int))], [.inl 1, .inr (.inr (some 82))], (I31, L, R, Y), 0, 0) (fun _ => rfl) ?_
            refine yi_D_if1 false rfl (by decide) ?_
            refine yi_D_run 3 (56, [(2, .inl 1), (0, .inr (.inr (some 82))), (1, .inl (dp : Int))], [.inl 0, .inl 4, .inr (.inr (some 82))], (I31, L, R, Y), 0, 0) (fun _ => rfl) ?_
            refine yi_D_callv rfl (q_emitC hW45 hmc39) ?_
            rintro _ ⟨I48, rfl, hE49, hmc50⟩
            have hW51 := mt_W_t hW45 (mt_E_F hE49)
            have hF52 := mt_F_t hF46 (mt_E_F hE49)
            have hf53 : I48 82 8 = 0 := (hE49.1 82 8 (by omega)).trans hf37
            have hA54 : mt_A I48 te a33 := ⟨(hE49.1 82 7 (by omega)).trans hA38.1, hA38.2⟩
            have hmc50 : mc_S gg I48 (cs34 ++ [(sp_sg (K a1).toNat, 0)]) := by rw [show ((sp_sg (K a1).toNat, 0) : Int × Int) = (4, 0) from (by rw [show (K a1).toNat = 43 by omega]; rfl)]; exact hmc50
            have hwf55 : wfX okP (23 - 4 * dp) cs (cs34 ++ [(sp_sg (K a1).toNat, 0)]) := wfX_2 hwf9 hwf40 (by omega) sp_sg_b okP_sg
            show yi_D zi_Ms d zi_m114 j5 (59, [(2, .inl 1), (0, .inr (.inr (some 82))), (1, .inl (dp : Int))], [], (I48, L, R, Y), 0, 0) _
            refine yi_D_run 1 (5, [(2, .inl 1), (0, .inr (.inr (some 82))), (1, .inl (dp : Int))], [], (I48, L, R, Y), 0, 0) (fun _ => rfl) ?_
            refine yi_D_al (al := [(0, .inr (.inr (some 82))), (1, .inl (dp : Int)), (2, .inl 1)]) (show ([0, 1, 2] : List Nat).Nodup by decide) (show ([2, 0, 1] : List Nat).Nodup by decide) (yi_mc (List.mem_of_getElem? (i := 2) rfl) (yi_mc (List.mem_of_getElem? (i := 0) rfl) (yi_mc (List.mem_of_getElem? (i := 1) rfl) yi_mn))) ?_
            exact yi_D_mono (ih5 (by omega) 1 I48 a33 (cs34 ++ [(sp_sg (K a1).toNat, 0)]) (by omega) hF52 hf53 hA54 hR47 hmc50 hwf55) (by omega)
          · have hW56 := mt_W_t hW25 hFr32
            have hF57 := mt_F_t hF26 hFr32
            have hn58 : 0 < I31 82 8 := by rw [he44]; exact hz43
            have hx59 : sp_R K P V (10, a, dp, sk, ld, nm, cs) (.inr f41) := sp_R_t hst30 hR42
            show yi_D zi_Ms d zi_m114 j5 (45, [(2, .inl 1), (0, .inr (.inr (some 82))), (1, .inl (dp : Int))], [], (I31, L, R, Y), 0, 0) _
            refine yi_D_run 2 (47, [(2, .inl 1), (0, .inr (.inr (some 82))), (1, .inl (dp : Int))], [.inl 1, .inr (.inr (some 82))], (I31, L, R, Y), 0, 0) (fun _ => rfl) ?_
            refine yi_D_if1 false rfl (by decide) ?_
            refine yi_D_run 3 (56, [(2, .inl 1), (0, .inr (.inr (some 82))), (1, .inl (dp : Int))], [.inl 0, .inl 4, .inr (.inr (some 82))], (I31, L, R, Y), 0, 0) (fun _ => rfl) ?_
            refine yi_D_callv rfl (q_emit hW56) ?_
            rintro _ ⟨I60, rfl, hE61⟩
            have hW62 := mt_W_t hW56 (mt_E_F hE61)
            have hF63 := mt_F_t hF57 (mt_E_F hE61)
            have hf64 : 0 < I60 82 8 := by rw [hE61.1 82 8 (by omega)]; exact hn58
            have he65 := (hE61.1 82 8 (by omega)).trans he44
            show yi_D zi_Ms d zi_m114 j5 (59, [(2, .inl 1), (0, .inr (.inr (some 82))), (1, .inl (dp : Int))], [], (I60, L, R, Y), 0, 0) _
            refine yi_D_run 1 (5, [(2, .inl 1), (0, .inr (.inr (some 82))), (1, .inl (dp : Int))], [], (I60, L, R, Y), 0, 0) (fun _ => rfl) ?_
            refine yi_D_run 2 (8, [(2, .inl 1), (0, .inr (.inr (some 82))), (1, .inl (dp : Int))], [.inl 43, .inr (.inr (some 82))], (I60, L, R, Y), 0, 0) (fun _ => rfl) ?_
            refine yi_D_callv rfl (q_isSign_f hW62 hf64) ?_
            rintro _ rfl
            show yi_D zi_Ms d zi_m114 j5 (11, [(2, .inl 1), (0, .inr (.inr (some 82))), (1, .inl (dp : Int))], [.inl 0], (I60, L, R, Y), 0, 0) _
            refine yi_D_if1 false rfl (by decide) ?_
            refine yi_D_run 2 (17, [(2, .inl 1), (0, .inr (.inr (some 82))), (1, .inl (dp : Int))], [.inl 45, .inr (.inr (some 82))], (I60, L, R, Y), 0, 0) (fun _ => rfl) ?_
            refine yi_D_callv rfl (q_isSign_f hW62 hf64) ?_
            rintro _ rfl
            show yi_D zi_Ms d zi_m114 j5 (20, [(2, .inl 1), (0, .inr (.inr (some 82))), (1, .inl (dp : Int))], [.inl 0], (I60, L, R, Y), 0, 0) _
            refine yi_D_if1 true rfl (by decide) ?_
            refine yi_D_retv rfl ?_
            exact ⟨_, rfl, hF63, Or.inr ⟨_, hx59, hz43, he65⟩⟩
        · exfalso; omega
      · show yi_D zi_Ms d zi_m114 j5 (11, [(0, .inr (.inr (some 82))), (1, .inl (dp : Int)), (2, .inl y2)], [.inl 0], (J1, L, R, Y), 0, 0) _
        refine yi_D_if1 false rfl (by decide) ?_
        refine yi_D_run 2 (17, [(0, .inr (.inr (some 82))), (1, .inl (dp : Int)), (2, .inl y2)], [.inl 45, .inr (.inr (some 82))], (J1, L, R, Y), 0, 0) (fun _ => rfl) ?_
        refine yi_D_callv rfl (q_isSign_z (by omega) hW9 hf9 hA9) ?_
        rintro _ (⟨c66, rfl⟩ | ⟨c66, rfl⟩)
        · show yi_D zi_Ms d zi_m114 j5 (20, [(0, .inr (.inr (some 82))), (1, .inl (dp : Int)), (2, .inl y2)], [.inl 1], (J1, L, R, Y), 0, 0) _
          refine yi_D_if1 false rfl (by decide) ?_
          refine yi_D_run 2 (26, [(0, .inr (.inr (some 82))), (1, .inl (dp : Int)), (2, .inl y2)], [.inl 43, .inr (.inr (some 82))], (J1, L, R, Y), 0, 0) (fun _ => rfl) ?_
          refine yi_D_callv rfl (q_isSign_z (by omega) hW9 hf9 hA9) ?_
          rintro _ (⟨c67, rfl⟩ | ⟨c67, rfl⟩)
          · exfalso; omega
          · show yi_D zi_Ms d zi_m114 j5 (29, [(0, .inr (.inr (some 82))), (1, .inl (dp : Int)), (2, .inl y2)], [.inl 0], (J1, L, R, Y), 0, 0) _
            refine yi_D_run 3 (32, [(2, .inl 0), (0, .inr (.inr (some 82))), (1, .inl (dp : Int))], [.inr (.inr (some 82)), .inr (.inr (some 82))], (J1, L, R, Y), 0, 0) (fun _ => rfl) ?_
            refine yi_D_gi (v := (a1 : Int)) rfl rfl rfl hA9.1 (fun _ => ?_)
            refine yi_D_run 1 (36, [(2, .inl 0), (0, .inr (.inr (some 82))), (1, .inl (dp : Int))], [.inl 1, .inl (a1 : Int), .inr (.inr (some 82))], (J1, L, R, Y), 0, 0) (fun _ => rfl) ?_
            refine yi_D_iadd rfl ((a1 : Int) + 1) (yi_wn (by omega) (by omega)) ?_
            refine yi_D_pi rfl (fun _ => ?_)
            generalize w69 : yi_u J1 82 7 ((a1 : Int) + 1) = I68
            have hGn70 : mt_G J1 I68 := fun p k hp => by rw [← w69, yi_u_ne _ _ (by omega)]
            have hW71 := mt_W_t hW9 (mt_G_F hGn70)
            have hF72 := mt_F_t hF9 (mt_G_F hGn70)
            have hmc73 := mc_G hm9 hGn70
            have hf74 : I68 82 8 = 0 := by rw [← w69, yi_u_ne _ _ (by omega)]; exact hf9
            have hA75 : mt_A I68 te (a1 + 1) := ⟨by rw [← w69, yi_u_eq]; omega, mt_lt hW71.2.1 hA9.2 (by omega)⟩
            refine yi_D_run 2 (42, [(2, .inl 0), (0, .inr (.inr (some 82))), (1, .inl (dp : Int))], [.inl (dp : Int), .inr (.inr (some 82))], (I68, L, R, Y), 0, 0) (fun _ => rfl) ?_
            have hli := sp_lev_i (K a1)
            have hst76 : sp_R K P V (10, a, dp, sk, ld, nm, cs) (.inl (11, a1 + 1, dp, (100 + 8 * (K a1).toNat + 2) :: sk, ld, nm, cs1)) := sp_R_s hR9 ((sp_st13 (l := 2) (by omega)).trans (if_pos (by omega)))
            refine yi_D_callv rfl (hRD dp ((100 + 8 * (K a1).toNat + 2) :: sk) cs1 hW71 hf74 hA75 (by omega) hmc73) ?_
            rintro _ ⟨I77, rfl, hFr78, (⟨a79, cs80, hR81, lt82, hf83, hA84, hmc85, hwf86⟩ | ⟨f87, hR88, hz89, he90⟩)⟩
            · have hW91 := mt_W_t hW71 hFr78
              have hF92 := mt_F_t hF72 hFr78
              have hR93 := sp_R_s (sp_R_t hst76 hR81) (sp_st13b (l := 2) (by omega) (by omega))
              show yi_D zi_Ms d zi_m114 j5 (45, [(2, .inl 0), (0, .inr (.inr (some 82))), (1, .inl (dp : Int))], [], (I77, L, R, Y), 0, 0) _
              refine yi_D_run 2 (47, [(2, .inl 0), (0, .inr (.inr (some 82))), (1, .inl (dp : Int))], [.inl 0, .inr (.inr (some 82))], (I77, L, R, Y), 0, 0) (fun _ => rfl) ?_
              refine yi_D_if1 true rfl (by decide) ?_
              refine yi_D_run 2 (56, [(2, .inl 0), (0, .inr (.inr (some 82))), (1, .inl (dp : Int))], [.inl 0, .inl 5, .inr (.inr (some 82))], (I77, L, R, Y), 0, 0) (fun _ => rfl) ?_
              refine yi_D_callv rfl (q_emitC hW91 hmc85) ?_
              rintro _ ⟨I94, rfl, hE95, hmc96⟩
              have hW97 := mt_W_t hW91 (mt_E_F hE95)
              have hF98 := mt_F_t hF92 (mt_E_F hE95)
              have hf99 : I94 82 8 = 0 := (hE95.1 82 8 (by omega)).trans hf83
              have hA100 : mt_A I94 te a79 := ⟨(hE95.1 82 7 (by omega)).trans hA84.1, hA84.2⟩
              have hmc96 : mc_S gg I94 (cs80 ++ [(sp_sg (K a1).toNat, 0)]) := by rw [show ((sp_sg (K a1).toNat, 0) : Int × Int) = (5, 0) from (by rw [show (K a1).toNat = 45 by omega]; rfl)]; exact hmc96
              have hwf101 : wfX okP (23 - 4 * dp) cs (cs80 ++ [(sp_sg (K a1).toNat, 0)]) := wfX_2 hwf9 hwf86 (by omega) sp_sg_b okP_sg
              show yi_D zi_Ms d zi_m114 j5 (59, [(2, .inl 0), (0, .inr (.inr (some 82))), (1, .inl (dp : Int))], [], (I94, L, R, Y), 0, 0) _
              refine yi_D_run 1 (5, [(2, .inl 0), (0, .inr (.inr (some 82))), (1, .inl (dp : Int))], [], (I94, L, R, Y), 0, 0) (fun _ => rfl) ?_
              refine yi_D_al (al := [(0, .inr (.inr (some 82))), (1, .inl (dp : Int)), (2, .inl 0)]) (show ([0, 1, 2] : List Nat).Nodup by decide) (show ([2, 0, 1] : List Nat).Nodup by decide) (yi_mc (List.mem_of_getElem? (i := 2) rfl) (yi_mc (List.mem_of_getElem? (i := 0) rfl) (yi_mc (List.mem_of_getElem? (i := 1) rfl) yi_mn))) ?_
              exact yi_D_mono (ih5 (by omega) 0 I94 a79 (cs80 ++ [(sp_sg (K a1).toNat, 0)]) (by omega) hF98 hf99 hA100 hR93 hmc96 hwf101) (by omega)
            · have hW102 := mt_W_t hW71 hFr78
              have hF103 := mt_F_t hF72 hFr78
              have hn104 : 0 < I77 82 8 := by rw [he90]; exact hz89
              have hx105 : sp_R K P V (10, a, dp, sk, ld, nm, cs) (.inr f87) := sp_R_t hst76 hR88
              show yi_D zi_Ms d zi_m114 j5 (45, [(2, .inl 0), (0, .inr (.inr (some 82))), (1, .inl (dp : Int))], [], (I77, L, R, Y), 0, 0) _
              refine yi_D_run 2 (47, [(2, .inl 0), (0, .inr (.inr (some 82))), (1, .inl (dp : Int))], [.inl 0, .inr (.inr (some 82))], (I77, L, R, Y), 0, 0) (fun _ => rfl) ?_
              refine yi_D_if1 true rfl (by decide) ?_
              refine yi_D_run 2 (56, [(2, .inl 0), (0, .inr (.inr (some 82))), (1, .inl (dp : Int))], [.inl 0, .inl 5, .inr (.inr (some 82))], (I77, L, R, Y), 0, 0) (fun _ => rfl) ?_
              refine yi_D_callv rfl (q_emit hW102) ?_
              rintro _ ⟨I106, rfl, hE107⟩
              have hW108 := mt_W_t hW102 (mt_E_F hE107)
              have hF109 := mt_F_t hF103 (mt_E_F hE107)
              have hf110 : 0 < I106 82 8 := by rw [hE107.1 82 8 (by omega)]; exact hn104
              have he111 := (hE107.1 82 8 (by omega)).trans he90
              show yi_D zi_Ms d zi_m114 j5 (59, [(2, .inl 0), (0, .inr (.inr (some 82))), (1, .inl (dp : Int))], [], (I106, L, R, Y), 0, 0) _
              refine yi_D_run 1 (5, [(2, .inl 0), (0, .inr (.inr (some 82))), (1, .inl (dp : Int))], [], (I106, L, R, Y), 0, 0) (fun _ => rfl) ?_
              refine yi_D_run 2 (8, [(2, .inl 0), (0, .inr (.inr (some 82))), (1, .inl (dp : Int))], [.inl 43, .inr (.inr (some 82))], (I106, L, R, Y), 0, 0) (fun _ => rfl) ?_
              refine yi_D_callv rfl (q_isSign_f hW108 hf110) ?_
              rintro _ rfl
              show yi_D zi_Ms d zi_m114 j5 (11, [(2, .inl 0), (0, .inr (.inr (some 82))), (1, .inl (dp : Int))], [.inl 0], (I106, L, R, Y), 0, 0) _
              refine yi_D_if1 false rfl (by decide) ?_
              refine yi_D_run 2 (17, [(2, .inl 0), (0, .inr (.inr (some 82))), (1, .inl (dp : Int))], [.inl 45, .inr (.inr (some 82))], (I106, L, R, Y), 0, 0) (fun _ => rfl) ?_
              refine yi_D_callv rfl (q_isSign_f hW108 hf110) ?_
              rintro _ rfl
              show yi_D zi_Ms d zi_m114 j5 (20, [(2, .inl 0), (0, .inr (.inr (some 82))), (1, .inl (dp : Int))], [.inl 0], (I106, L, R, Y), 0, 0) _
              refine yi_D_if1 true rfl (by decide) ?_
              refine yi_D_retv rfl ?_
              exact ⟨_, rfl, hF109, Or.inr ⟨_, hx105, hz89, he111⟩⟩
        · show yi_D zi_Ms d zi_m114 j5 (20, [(0, .inr (.inr (some 82))), (1, .inl (dp : Int)), (2, .inl y2)], [.inl 0], (J1, L, R, Y), 0, 0) _
          refine yi_D_if1 true rfl (by decide) ?_
          refine yi_D_retv rfl ?_
          have hli := sp_lev_i (K a1)
          have hstd := sp_R_s hR9 ((sp_st13 (l := 2) (by omega)).trans (if_neg (by omega)))
          exact ⟨_, rfl, hF9, Or.inl ⟨_, _, hstd, by omega, hf9, hA9, hm9, hwf9⟩⟩
    refine yi_D_al (al := [(0, .inr (.inr (some 82))), (1, .inl (dp : Int)), (2, .inl 0)]) (show ([0, 1, 2] : List Nat).Nodup by decide) (show ([0, 1] : List Nat).Nodup by decide) (yi_mc (List.mem_of_getElem? (i := 0) rfl) (yi_mc (List.mem_of_getElem? (i := 1) rfl) yi_mn)) ?_
    exact pt5 k (Nat.le_refl _) 0 I2 a4 cs5 (by omega) hF17 hf8 hA9 hR18 hmc10 hwf19
  · have hW112 := mt_W_t hW hFr3
    have hF113 := hFr3
    have hn114 : 0 < I2 82 8 := by rw [he15]; exact hz14
    have hx115 : sp_R K P V (10, a, dp, sk, ld, nm, cs) (.inr f12) := sp_R_t hst1 hR13
    show yi_D zi_Ms d zi_m114 k (5, [(0, .inr (.inr (some 82))), (1, .inl (dp : Int))], [], (I2, L, R, Y), 0, 0) _
    refine yi_D_run 2 (8, [(0, .inr (.inr (some 82))), (1, .inl (dp : Int))], [.inl 43, .inr (.inr (some 82))], (I2, L, R, Y), 0, 0) (fun _ => rfl) ?_
    refine yi_D_callv rfl (q_isSign_f hW112 hn114) ?_
    rintro _ rfl
    show yi_D zi_Ms d zi_m114 k (11, [(0, .inr (.inr (some 82))), (1, .inl (dp : Int))], [.inl 0], (I2, L, R, Y), 0, 0) _
    refine yi_D_if1 false rfl (by decide) ?_
    refine yi_D_run 2 (17, [(0, .inr (.inr (some 82))), (1, .inl (dp : Int))], [.inl 45, .inr (.inr (some 82))], (I2, L, R, Y), 0, 0) (fun _ => rfl) ?_
    refine yi_D_callv rfl (q_isSign_f hW112 hn114) ?_
    rintro _ rfl
    show yi_D zi_Ms d zi_m114 k (20, [(0, .inr (.inr (some 82))), (1, .inl (dp : Int))], [.inl 0], (I2, L, R, Y), 0, 0) _
    refine yi_D_if1 true rfl (by decide) ?_
    refine yi_D_retv rfl ?_
    exact ⟨_, rfl, hF113, Or.inr ⟨_, hx115, hz14, he15⟩⟩
theorem q_testC_s {d : Nat} {I L : Nat → Nat → Int} {R : Nat → Nat → Option Nat} {Y : (Nat → Nat) × (Nat → Nat) × Nat} (hRU : mt_RUC d) {K P V : Nat → Int} {te b a : Nat} {ld : Nat → Int} {nm : Int → Int} (hW : mt_W I L R Y K P V te b ld nm) (hf : I 82 8 = 0) (hA : mt_A I te a) (dp : Nat) (sk : List Nat) (cs : List (Int × Int)) (hd : dp ≤ 5) {gg : Nat → Int × Int} (hm : mc_S gg I cs) : yi_P zi_Ms (d + 1) 123 [.inr (.inr (some 82)), .inl (dp : Int)] (I, L, R, Y) (mt_QRC gg I L R Y K P V te (9, a, dp, sk, ld, nm, cs) 13 a dp sk ld nm okP (24 - 4 * dp) cs) := by
  refine yi_P_s (M := zi_m123) rfl (fun k => ?_)
  have hS := hW.1
  have ht := hW.2.1.1
  have ha := hA.2
  have hp := hW.2.1.2.1 a hA.2
  show yi_D zi_Ms d zi_m123 k (0, [(0, .inr (.inr (some 82))), (1, .inl (dp : Int))], [], (I, L, R, Y), 0, 0) _
  refine yi_D_run 2 (2, [(0, .inr (.inr (some 82))), (1, .inl (dp : Int))], [.inl (dp : Int), .inr (.inr (some 82))], (I, L, R, Y), 0, 0) (fun _ => rfl) ?_
  have hst1 : sp_R K P V (9, a, dp, sk, ld, nm, cs) (.inl (10, a, dp, 31 :: sk, ld, nm, cs)) := sp_R_1 rfl
  refine yi_D_callv rfl (hRU dp (31 :: sk) cs hW hf hA (by omega) hm) ?_
  rintro _ ⟨I2, rfl, hFr3, (⟨a4, cs5, hR6, lt7, hf8, hA9, hmc10, hwf11⟩ | ⟨f12, hR13, hz14, he15⟩)⟩
  · have hW16 := mt_W_t hW hFr3
    have hF17 := hFr3
    have hR18 := sp_R_t hst1 hR6
    have hwf19 : wfX okP (24 - 4 * dp) cs cs5 := wfX_m hwf11 (by omega)
    show yi_D zi_Ms d zi_m123 k (5, [(0, .inr (.inr (some 82))), (1, .inl (dp : Int))], [], (I2, L, R, Y), 0, 0) _
    refine yi_D_run 2 (8, [(0, .inr (.inr (some 82))), (1, .inl (dp : Int))], [.inl 60, .inr (.inr (some 82))], (I2, L, R, Y), 0, 0) (fun _ => rfl) ?_
    refine yi_D_callv rfl (q_isSign_z (by omega) hW16 hf8 hA9) ?_
    rintro _ (⟨c20, rfl⟩ | ⟨c20, rfl⟩)
    · show yi_D zi_Ms d zi_m123 k (11, [(0, .inr (.inr (some 82))), (1, .inl (dp : Int))], [.inl 1], (I2, L, R, Y), 0, 0) _
      refine yi_D_run 3 (15, [(2, .inl 1), (0, .inr (.inr (some 82))), (1, .inl (dp : Int))], [.inl 60, .inr (.inr (some 82))], (I2, L, R, Y), 0, 0) (fun _ => rfl) ?_
      refine yi_D_callv rfl (q_hasSign_z (by omega) hW16 hf8 hA9) ?_
      rintro _ (⟨c21, I22, rfl, hGa23, hf24, hA25⟩ | ⟨c26, I27, rfl, hGa28, hf29, hA30⟩)
      · have hA25 : mt_A I22 te (a4 + 1) := hA25
        have hW31 := mt_W_t hW16 (mt_G_F hGa23)
        have hF32 := mt_F_t hF17 (mt_G_F hGa23)
        have hmc33 := mc_G hmc10 hGa23
        show yi_D zi_Ms d zi_m123 k (18, [(2, .inl 1), (0, .inr (.inr (some 82))), (1, .inl (dp : Int))], [.inl 1], (I22, L, R, Y), 0, 0) _
        refine yi_D_if1 true rfl (by decide) ?_
        refine yi_D_run 2 (32, [(2, .inl 1), (0, .inr (.inr (some 82))), (1, .inl (dp : Int))], [.inl (dp : Int), .inr (.inr (some 82))], (I22, L, R, Y), 0, 0) (fun _ => rfl) ?_
        have hli := sp_lev_i (K a4)
        have hst34 : sp_R K P V (9, a, dp, sk, ld, nm, cs) (.inl (10, a4 + 1, dp, (100 + 8 * (K a4).toNat + 1) :: sk, ld, nm, cs5)) := sp_R_s hR18 ((sp_st13 (l := 1) (by omega)).trans (if_pos (by omega)))
        refine yi_D_callv rfl (hRU dp ((100 + 8 * (K a4).toNat + 1) :: sk) cs5 hW31 hf24 hA25 (by omega) hmc33) ?_
        rintro _ ⟨I35, rfl, hFr36, (⟨a37, cs38, hR39, lt40, hf41, hA42, hmc43, hwf44⟩ | ⟨f45, hR46, hz47, he48⟩)⟩
        · have hW49 := mt_W_t hW31 hFr36
          have hF50 := mt_F_t hF32 hFr36
          have hR51 := sp_R_s (sp_R_t hst34 hR39) sp_st13c
          show yi_D zi_Ms d zi_m123 k (35, [(2, .inl 1), (0, .inr (.inr (some 82))), (1, .inl (dp : Int))], [], (I35, L, R, Y), 0, 0) _
          refine yi_D_run 2 (37, [(2, .inl 1), (0, .inr (.inr (some 82))), (1, .inl (dp : Int))], [.inl 1, .inr (.inr (some 82))], (I35, L, R, Y), 0, 0) (fun _ => rfl) ?_
          refine yi_D_if1 false rfl (by decide) ?_
          refine yi_D_run 3 (48, [(2, .inl 1), (0, .inr (.inr (some 82))), (1, .inl (dp : Int))], [.inl 0, .inl 7, .inr (.inr (some 82))], (I35, L, R, Y), 0, 0) (fun _ => rfl) ?_
          refine yi_D_callv rfl (q_emitC hW49 hmc43) ?_
          rintro _ ⟨I52, rfl, hE53, hmc54⟩
          have hW55 := mt_W_t hW49 (mt_E_F hE53)
          have hF56 := mt_F_t hF50 (mt_E_F hE53)
          have hf57 : I52 82 8 = 0 := (hE53.1 82 8 (by omega)).trans hf41
          have hA58 : mt_A I52 te a37 := ⟨(hE53.1 82 7 (by omega)).trans hA42.1, hA42.2⟩
          have hmc54 : mc_S gg I52 (cs38 ++ [(sp_sg (K a4).toNat, 0)]) := by rw [show ((sp_sg (K a4).toNat, 0) : Int × Int) = (7, 0) from (by rw [show (K a4).toNat = 60 by omega]; rfl)]; exact hmc54
          have hwf59 : wfX okP (24 - 4 * dp) cs (cs38 ++ [(sp_sg (K a4).toNat, 0)]) := wfX_2 hwf19 hwf44 (by omega) sp_sg_b okP_sg
          show yi_D zi_Ms d zi_m123 k (51, [(2, .inl 1), (0, .inr (.inr (some 82))), (1, .inl (dp : Int))], [], (I52, L, R, Y), 0, 0) _
          refine yi_D_retv rfl ?_
          exact ⟨_, rfl, hF56, Or.inl ⟨_, _, hR51, by omega, hf57, hA58, hmc54, hwf59⟩⟩
        · have hW60 := mt_W_t hW31 hFr36
          have hF61 := mt_F_t hF32 hFr36
          have hn62 : 0 < I35 82 8 := by rw [he48]; exact hz47
          have hx63 : sp_R K P V (9, a, dp, sk, ld, nm, cs) (.inr f45) := sp_R_t hst34 hR46
          show yi_D zi_Ms d zi_m123 k (35, [(2, .inl 1), (0, .inr (.inr (some 82))), (1, .inl (dp : Int))], [], (I35, L, R, Y), 0, 0) _
          refine yi_D_run 2 (37, [(2, .inl 1), (0, .inr (.inr (some 82))), (1, .inl (dp : Int))], [.inl 1, .inr (.inr (some 82))], (I35, L, R, Y), 0, 0) (fun _ => rfl) ?_
          refine yi_D_if1 false rfl (by decide) ?_
          refine yi_D_run 3 (48, [(2, .inl 1), (0, .inr (.inr (some 82))), (1, .inl (dp : Int))], [.inl 0, .inl 7, .inr (.inr (some 82))], (I35, L, R, Y), 0, 0) (fun _ => rfl) ?_
          refine yi_D_callv rfl (q_emit hW60) ?_
          rintro _ ⟨I64, rfl, hE65⟩
          have hW66 := mt_W_t hW60 (mt_E_F hE65)
          have hF67 := mt_F_t hF61 (mt_E_F hE65)
          have hf68 : 0 < I64 82 8 := by rw [hE65.1 82 8 (by omega)]; exact hn62
          have he69 := (hE65.1 82 8 (by omega)).trans he48
          show yi_D zi_Ms d zi_m123 k (51, [(2, .inl 1), (0, .inr (.inr (some 82))), (1, .inl (dp : Int))], [], (I64, L, R, Y), 0, 0) _
          refine yi_D_retv rfl ?_
          exact ⟨_, rfl, hF67, Or.inr ⟨_, hx63, hz47, he69⟩⟩
      · exfalso; omega
    · show yi_D zi_Ms d zi_m123 k (11, [(0, .inr (.inr (some 82))), (1, .inl (dp : Int))], [.inl 0], (I2, L, R, Y), 0, 0) _
      refine yi_D_run 3 (15, [(2, .inl 0), (0, .inr (.inr (some 82))), (1, .inl (dp : Int))], [.inl 60, .inr (.inr (some 82))], (I2, L, R, Y), 0, 0) (fun _ => rfl) ?_
      refine yi_D_callv rfl (q_hasSign_z (by omega) hW16 hf8 hA9) ?_
      rintro _ (⟨c70, I71, rfl, hGa72, hf73, hA74⟩ | ⟨c75, I76, rfl, hGa77, hf78, hA79⟩)
      · exfalso; omega
      · have hA79 : mt_A I76 te a4 := hA79
        have hW80 := mt_W_t hW16 (mt_G_F hGa77)
        have hF81 := mt_F_t hF17 (mt_G_F hGa77)
        have hmc82 := mc_G hmc10 hGa77
        show yi_D zi_Ms d zi_m123 k (18, [(2, .inl 0), (0, .inr (.inr (some 82))), (1, .inl (dp : Int))], [.inl 0], (I76, L, R, Y), 0, 0) _
        refine yi_D_if1 false rfl (by decide) ?_
        refine yi_D_run 2 (24, [(2, .inl 0), (0, .inr (.inr (some 82))), (1, .inl (dp : Int))], [.inl 61, .inr (.inr (some 82))], (I76, L, R, Y), 0, 0) (fun _ => rfl) ?_
        refine yi_D_callv rfl (q_hasSign_z (by omega) hW80 hf78 hA79) ?_
        rintro _ (⟨c83, I84, rfl, hGa85, hf86, hA87⟩ | ⟨c88, I89, rfl, hGa90, hf91, hA92⟩)
        · have hA87 : mt_A I84 te (a4 + 1) := hA87
          have hW93 := mt_W_t hW80 (mt_G_F hGa85)
          have hF94 := mt_F_t hF81 (mt_G_F hGa85)
          have hmc95 := mc_G hmc82 hGa85
          show yi_D zi_Ms d zi_m123 k (27, [(2, .inl 0), (0, .inr (.inr (some 82))), (1, .inl (dp : Int))], [.inl 1], (I84, L, R, Y), 0, 0) _
          refine yi_D_if1 false rfl (by decide) ?_
          refine yi_D_run 2 (32, [(2, .inl 0), (0, .inr (.inr (some 82))), (1, .inl (dp : Int))], [.inl (dp : Int), .inr (.inr (some 82))], (I84, L, R, Y), 0, 0) (fun _ => rfl) ?_
          have hli := sp_lev_i (K a4)
          have hst96 : sp_R K P V (9, a, dp, sk, ld, nm, cs) (.inl (10, a4 + 1, dp, (100 + 8 * (K a4).toNat + 1) :: sk, ld, nm, cs5)) := sp_R_s hR18 ((sp_st13 (l := 1) (by omega)).trans (if_pos (by omega)))
          refine yi_D_callv rfl (hRU dp ((100 + 8 * (K a4).toNat + 1) :: sk) cs5 hW93 hf86 hA87 (by omega) hmc95) ?_
          rintro _ ⟨I97, rfl, hFr98, (⟨a99, cs100, hR101, lt102, hf103, hA104, hmc105, hwf106⟩ | ⟨f107, hR108, hz109, he110⟩)⟩
          · have hW111 := mt_W_t hW93 hFr98
            have hF112 := mt_F_t hF94 hFr98
            have hR113 := sp_R_s (sp_R_t hst96 hR101) sp_st13c
            show yi_D zi_Ms d zi_m123 k (35, [(2, .inl 0), (0, .inr (.inr (some 82))), (1, .inl (dp : Int))], [], (I97, L, R, Y), 0, 0) _
            refine yi_D_run 2 (37, [(2, .inl 0), (0, .inr (.inr (some 82))), (1, .inl (dp : Int))], [.inl 0, .inr (.inr (some 82))], (I97, L, R, Y), 0, 0) (fun _ => rfl) ?_
            refine yi_D_if1 true rfl (by decide) ?_
            refine yi_D_run 2 (48, [(2, .inl 0), (0, .inr (.inr (some 82))), (1, .inl (dp : Int))], [.inl 0, .inl 8, .inr (.inr (some 82))], (I97, L, R, Y), 0, 0) (fun _ => rfl) ?_
            refine yi_D_callv rfl (q_emitC hW111 hmc105) ?_
            rintro _ ⟨I114, rfl, hE115, hmc116⟩
            have hW117 := mt_W_t hW111 (mt_E_F hE115)
            have hF118 := mt_F_t hF112 (mt_E_F hE115)
            have hf119 : I114 82 8 = 0 := (hE115.1 82 8 (by omega)).trans hf103
            have hA120 : mt_A I114 te a99 := ⟨(hE115.1 82 7 (by omega)).trans hA104.1, hA104.2⟩
            have hmc116 : mc_S gg I114 (cs100 ++ [(sp_sg (K a4).toNat, 0)]) := by rw [show ((sp_sg (K a4).toNat, 0) : Int × Int) = (8, 0) from (by rw [show (K a4).toNat = 61 by omega]; rfl)]; exact hmc116
            have hwf121 : wfX okP (24 - 4 * dp) cs (cs100 ++ [(sp_sg (K a4).toNat, 0)]) := wfX_2 hwf19 hwf106 (by omega) sp_sg_b okP_sg
            show yi_D zi_Ms d zi_m123 k (51, [(2, .inl 0), (0, .inr (.inr (some 82))), (1, .inl (dp : Int))], [], (I114, L, R, Y), 0, 0) _
            refine yi_D_retv rfl ?_
            exact ⟨_, rfl, hF118, Or.inl ⟨_, _, hR113, by omega, hf119, hA120, hmc116, hwf121⟩⟩
          · have hW122 := mt_W_t hW93 hFr98
            have hF123 := mt_F_t hF94 hFr98
            have hn124 : 0 < I97 82 8 := by rw [he110]; exact hz109
            have hx125 : sp_R K P V (9, a, dp, sk, ld, nm, cs) (.inr f107) := sp_R_t hst96 hR108
            show yi_D zi_Ms d zi_m123 k (35, [(2, .inl 0), (0, .inr (.inr (some 82))), (1, .inl (dp : Int))], [], (I97, L, R, Y), 0, 0) _
            refine yi_D_run 2 (37, [(2, .inl 0), (0, .inr (.inr (some 82))), (1, .inl (dp : Int))], [.inl 0, .inr (.inr (some 82))], (I97, L, R, Y), 0, 0) (fun _ => rfl) ?_
            refine yi_D_if1 true rfl (by decide) ?_
            refine yi_D_run 2 (48, [(2, .inl 0), (0, .inr (.inr (some 82))), (1, .inl (dp : Int))], [.inl 0, .inl 8, .inr (.inr (some 82))], (I97, L, R, Y), 0, 0) (fun _ => rfl) ?_
            refine yi_D_callv rfl (q_emit hW122) ?_
            rintro _ ⟨I126, rfl, hE127⟩
            have hW128 := mt_W_t hW122 (mt_E_F hE127)
            have hF129 := mt_F_t hF123 (mt_E_F hE127)
            have hf130 : 0 < I126 82 8 := by rw [hE127.1 82 8 (by omega)]; exact hn124
            have he131 := (hE127.1 82 8 (by omega)).trans he110
            show yi_D zi_Ms d zi_m123 k (51, [(2, .inl 0), (0, .inr (.inr (some 82))), (1, .inl (dp : Int))], [], (I126, L, R, Y), 0, 0) _
            refine yi_D_retv rfl ?_
            exact ⟨_, rfl, hF129, Or.inr ⟨_, hx125, hz109, he131⟩⟩
        · have hA92 : mt_A I89 te a4 := hA92
          have hW132 := mt_W_t hW80 (mt_G_F hGa90)
          have hF133 := mt_F_t hF81 (mt_G_F hGa90)
          have hmc134 := mc_G hmc82 hGa90
          show yi_D zi_Ms d zi_m123 k (27, [(2, .inl 0), (0, .inr (.inr (some 82))), (1, .inl (dp : Int))], [.inl 0], (I89, L, R, Y), 0, 0) _
          refine yi_D_if1 true rfl (by decide) ?_
          refine yi_D_retv rfl ?_
          have hli := sp_lev_i (K a4)
          have hstd := sp_R_s hR18 ((sp_st13 (l := 1) (by omega)).trans (if_neg (by omega)))
          exact ⟨_, rfl, hF133, Or.inl ⟨_, _, hstd, by omega, hf91, hA92, hmc134, hwf19⟩⟩
  · have hW135 := mt_W_t hW hFr3
    have hF136 := hFr3
    have hn137 : 0 < I2 82 8 := by rw [he15]; exact hz14
    have hx138 : sp_R K P V (9, a, dp, sk, ld, nm, cs) (.inr f12) := sp_R_t hst1 hR13
    show yi_D zi_Ms d zi_m123 k (5, [(0, .inr (.inr (some 82))), (1, .inl (dp : Int))], [], (I2, L, R, Y), 0, 0) _
    refine yi_D_run 2 (8, [(0, .inr (.inr (some 82))), (1, .inl (dp : Int))], [.inl 60, .inr (.inr (some 82))], (I2, L, R, Y), 0, 0) (fun _ => rfl) ?_
    refine yi_D_callv rfl (q_isSign_f hW135 hn137) ?_
    rintro _ rfl
    show yi_D zi_Ms d zi_m123 k (11, [(0, .inr (.inr (some 82))), (1, .inl (dp : Int))], [.inl 0], (I2, L, R, Y), 0, 0) _
    refine yi_D_run 3 (15, [(2, .inl 0), (0, .inr (.inr (some 82))), (1, .inl (dp : Int))], [.inl 60, .inr (.inr (some 82))], (I2, L, R, Y), 0, 0) (fun _ => rfl) ?_
    refine yi_D_callv rfl (q_hasSign_f hW135 hn137) ?_
    rintro _ ⟨I139, rfl, hGa140, hq141⟩
    have hW142 := mt_W_t hW135 (mt_G_F hGa140)
    have hF143 := mt_F_t hF136 (mt_G_F hGa140)
    have hf144 : 0 < I139 82 8 := by rw [hq141]; exact hn137
    have he145 := hq141.trans he15
    show yi_D zi_Ms d zi_m123 k (18, [(2, .inl 0), (0, .inr (.inr (some 82))), (1, .inl (dp : Int))], [.inl 0], (I139, L, R, Y), 0, 0) _
    refine yi_D_if1 false rfl (by decide) ?_
    refine yi_D_run 2 (24, [(2, .inl 0), (0, .inr (.inr (some 82))), (1, .inl (dp : Int))], [.inl 61, .inr (.inr (some 82))], (I139, L, R, Y), 0, 0) (fun _ => rfl) ?_
    refine yi_D_callv rfl (q_hasSign_f hW142 hf144) ?_
    rintro _ ⟨I146, rfl, hGa147, hq148⟩
    have hW149 := mt_W_t hW142 (mt_G_F hGa147)
    have hF150 := mt_F_t hF143 (mt_G_F hGa147)
    have hf151 : 0 < I146 82 8 := by rw [hq148]; exact hf144
    have he152 := hq148.trans he145
    show yi_D zi_Ms d zi_m123 k (27, [(2, .inl 0), (0, .inr (.inr (some 82))), (1, .inl (dp : Int))], [.inl 0], (I146, L, R, Y), 0, 0) _
    refine yi_D_if1 true rfl (by decide) ?_
    refine yi_D_retv rfl ?_
    exact ⟨_, rfl, hF150, Or.inr ⟨_, hx138, hz14, he152⟩⟩
theorem q_orsC_s {d : Nat} {I L : Nat → Nat → Int} {R : Nat → Nat → Option Nat} {Y : (Nat → Nat) × (Nat → Nat) × Nat} (hRS : mt_RSC d) {K P V : Nat → Int} {te b a : Nat} {ld : Nat → Int} {nm : Int → Int} (hW : mt_W I L R Y K P V te b ld nm) (hf : I 82 8 = 0) (hA : mt_A I te a) (dp : Nat) (sk : List Nat) (cs : List (Int × Int)) (hd : dp ≤ 5) {gg : Nat → Int × Int} (hm : mc_S gg I cs) : yi_P zi_Ms (d + 1) 87 [.inr (.inr (some 82)), .inl (dp : Int)] (I, L, R, Y) (mt_QRC gg I L R Y K P V te (8, a, dp, sk, ld, nm, cs) 13 a dp sk ld nm okP (25 - 4 * dp) cs) := by
  refine yi_P_s (M := zi_m87) rfl (fun k => ?_)
  have hS := hW.1
  have ht := hW.2.1.1
  have ha := hA.2
  have hp := hW.2.1.2.1 a hA.2
  show yi_D zi_Ms d zi_m87 k (0, [(0, .inr (.inr (some 82))), (1, .inl (dp : Int))], [], (I, L, R, Y), 0, 0) _
  refine yi_D_run 2 (2, [(0, .inr (.inr (some 82))), (1, .inl (dp : Int))], [.inl (dp : Int), .inr (.inr (some 82))], (I, L, R, Y), 0, 0) (fun _ => rfl) ?_
  have hst1 : sp_R K P V (8, a, dp, sk, ld, nm, cs) (.inl (9, a, dp, 30 :: sk, ld, nm, cs)) := sp_R_1 rfl
  refine yi_D_callv rfl (hRS dp (30 :: sk) cs hW hf hA (by omega) hm) ?_
  rintro _ ⟨I2, rfl, hFr3, (⟨a4, cs5, hR6, lt7, hf8, hA9, hmc10, hwf11⟩ | ⟨f12, hR13, hz14, he15⟩)⟩
  · have hW16 := mt_W_t hW hFr3
    have hF17 := hFr3
    have hR18 := sp_R_t hst1 hR6
    have hwf19 : wfX okP (25 - 4 * dp) cs cs5 := wfX_m hwf11 (by omega)
    show yi_D zi_Ms d zi_m87 k (5, [(0, .inr (.inr (some 82))), (1, .inl (dp : Int))], [], (I2, L, R, Y), 0, 0) _
    have pt5 : ∀ j5, j5 ≤ k → ∀ (y2 : Int) (J1 : Nat → Nat → Int) (a1 : Nat) (cs1 : List (Int × Int)), (a < a1) → (mt_F I J1) → (J1 82 8 = 0) → (mt_A J1 te a1) → (sp_R K P V (8, a, dp, sk, ld, nm, cs) (.inl (13, a1, dp, 30 :: sk, ld, nm, cs1))) → (mc_S gg J1 cs1) → (wfX okP (25 - 4 * dp) cs cs1) → yi_D zi_Ms d zi_m87 j5 (5, [(0, .inr (.inr (some 82))), (1, .inl (dp : Int)), (2, .inl y2)], [], (J1, L, R, Y), 0, 0) (mt_QRC gg I L R Y K P V te (8, a, dp, sk, ld, nm, cs) 13 a dp sk ld nm okP (25 - 4 * dp) cs) := by
      intro j5
      induction j5 with
      | zero => intros; exact yi_D_0
      | succ j5 ih5 =>
      intro hk5 y2 J1 a1 cs1 lt9 hF9 hf9 hA9 hR9 hm9 hwf9
      have hW9 := mt_W_t hW hF9
      have hle9 := hA9.2
      have hte9 := hW.2.1.1
      refine yi_D_run1 1 (8, [(0, .inr (.inr (some 82))), (1, .inl (dp : Int)), (2, .inl y2)], [.inl 27, .inr (.inr (some 82))], (J1, L, R, Y), 0, 0) (fun _ => rfl) ?_
      refine yi_D_callv rfl (q_isWord_z (by omega) (by omega) hW9 hf9 hA9) ?_
      rintro _ (⟨c20, rfl⟩ | ⟨c20, rfl⟩)
      · show yi_D zi_Ms d zi_m87 j5 (11, [(0, .inr (.inr (some 82))), (1, .inl (dp : Int)), (2, .inl y2)], [.inl 1], (J1, L, R, Y), 0, 0) _
        refine yi_D_if1 true rfl (by decide) ?_
        refine yi_D_run 2 (26, [(0, .inr (.inr (some 82))), (1, .inl (dp : Int)), (2, .inl y2)], [.inl 27, .inr (.inr (some 82))], (J1, L, R, Y), 0, 0) (fun _ => rfl) ?_
        refine yi_D_callv rfl (q_isWord_z (by omega) (by omega) hW9 hf9 hA9) ?_
        rintro _ (⟨c21, rfl⟩ | ⟨c21, rfl⟩)
        · show yi_D zi_Ms d zi_m87 j5 (29, [(0, .inr (.inr (some 82))), (1, .inl (dp : Int)), (2, .inl y2)], [.inl 1], (J1, L, R, Y), 0, 0) _
          refine yi_D_run 3 (32, [(2, .inl 1), (0, .inr (.inr (some 82))), (1, .inl (dp : Int))], [.inr (.inr (some 82)), .inr (.inr (some 82))], (J1, L, R, Y), 0, 0) (fun _ => rfl) ?_
          refine yi_D_gi (v := (a1 : Int)) rfl rfl rfl hA9.1 (fun _ => ?_)
          refine yi_D_run 1 (36, [(2, .inl 1), (0, .inr (.inr (some 82))), (1, .inl (dp : Int))], [.inl 1, .inl (a1 : Int), .inr (.inr (some 82))], (J1, L, R, Y), 0, 0) (fun _ => rfl) ?_
          refine yi_D_iadd rfl ((a1 : Int) + 1) (yi_wn (by omega) (by omega)) ?_
          refine yi_D_pi rfl (fun _ => ?_)
          generalize w23 : yi_u J1 82 7 ((a1 : Int) + 1) = I22
          have hGn24 : mt_G J1 I22 := fun p k hp => by rw [← w23, yi_u_ne _ _ (by omega)]
          have hW25 := mt_W_t hW9 (mt_G_F hGn24)
          have hF26 := mt_F_t hF9 (mt_G_F hGn24)
          have hmc27 := mc_G hm9 hGn24
          have hf28 : I22 82 8 = 0 := by rw [← w23, yi_u_ne _ _ (by omega)]; exact hf9
          have hA29 : mt_A I22 te (a1 + 1) := ⟨by rw [← w23, yi_u_eq]; omega, mt_lt hW25.2.1 hA9.2 (by omega)⟩
          refine yi_D_run 2 (42, [(2, .inl 1), (0, .inr (.inr (some 82))), (1, .inl (dp : Int))], [.inl (dp : Int), .inr (.inr (some 82))], (I22, L, R, Y), 0, 0) (fun _ => rfl) ?_
          have hli := sp_lev_i (K a1)
          have hst30 : sp_R K P V (8, a, dp, sk, ld, nm, cs) (.inl (9, a1 + 1, dp, (100 + 8 * (K a1).toNat + 0) :: sk, ld, nm, cs1)) := sp_R_s hR9 ((sp_st13 (l := 0) (by omega)).trans (if_pos (by omega)))
          refine yi_D_callv rfl (hRS dp ((100 + 8 * (K a1).toNat + 0) :: sk) cs1 hW25 hf28 hA29 (by omega) hmc27) ?_
          rintro _ ⟨I31, rfl, hFr32, (⟨a33, cs34, hR35, lt36, hf37, hA38, hmc39, hwf40⟩ | ⟨f41, hR42, hz43, he44⟩)⟩
          · have hW45 := mt_W_t hW25 hFr32
            have hF46 := mt_F_t hF26 hFr32
            have hR47 := sp_R_s (sp_R_t hst30 hR35) (sp_st13b (l := 0) (by omega) (by omega))
            show yi_D zi_Ms d zi_m87 j5 (45, [(2, .inl 1), (0, .inr (.inr (some 82))), (1, .inl (dp : Int))], [], (I31, L, R, Y), 0, 0) _
            refine yi_D_run 2 (47, [(2, .inl 1), (0, .inr (.inr (some 82))), (1, .inl (dp : Int))], [.inl 1, .inr (.inr (some 82))], (I31, L, R, Y), 0, 0) (fun _ => rfl) ?_
            refine yi_D_if1 false rfl (by decide) ?_
            refine yi_D_run 3 (58, [(2, .inl 1), (0, .inr (.inr (some 82))), (1, .inl (dp : Int))], [.inl 0, .inl 9, .inr (.inr (some 82))], (I31, L, R, Y), 0, 0) (fun _ => rfl) ?_
            refine yi_D_callv rfl (q_emitC hW45 hmc39) ?_
            rintro _ ⟨I48, rfl, hE49, hmc50⟩
            have hW51 := mt_W_t hW45 (mt_E_F hE49)
            have hF52 := mt_F_t hF46 (mt_E_F hE49)
            have hf53 : I48 82 8 = 0 := (hE49.1 82 8 (by omega)).trans hf37
            have hA54 : mt_A I48 te a33 := ⟨(hE49.1 82 7 (by omega)).trans hA38.1, hA38.2⟩
            have hmc50 : mc_S gg I48 (cs34 ++ [(sp_sg (K a1).toNat, 0)]) := by rw [show ((sp_sg (K a1).toNat, 0) : Int × Int) = (9, 0) from (by rw [show (K a1).toNat = 31 by omega]; rfl)]; exact hmc50
            have hwf55 : wfX okP (25 - 4 * dp) cs (cs34 ++ [(sp_sg (K a1).toNat, 0)]) := wfX_2 hwf9 hwf40 (by omega) sp_sg_b okP_sg
            show yi_D zi_Ms d zi_m87 j5 (61, [(2, .inl 1), (0, .inr (.inr (some 82))), (1, .inl (dp : Int))], [], (I48, L, R, Y), 0, 0) _
            refine yi_D_run 1 (5, [(2, .inl 1), (0, .inr (.inr (some 82))), (1, .inl (dp : Int))], [], (I48, L, R, Y), 0, 0) (fun _ => rfl) ?_
            refine yi_D_al (al := [(0, .inr (.inr (some 82))), (1, .inl (dp : Int)), (2, .inl 1)]) (show ([0, 1, 2] : List Nat).Nodup by decide) (show ([2, 0, 1] : List Nat).Nodup by decide) (yi_mc (List.mem_of_getElem? (i := 2) rfl) (yi_mc (List.mem_of_getElem? (i := 0) rfl) (yi_mc (List.mem_of_getElem? (i := 1) rfl) yi_mn))) ?_
            exact yi_D_mono (ih5 (by omega) 1 I48 a33 (cs34 ++ [(sp_sg (K a1).toNat, 0)]) (by omega) hF52 hf53 hA54 hR47 hmc50 hwf55) (by omega)
          · have hW56 := mt_W_t hW25 hFr32
            have hF57 := mt_F_t hF26 hFr32
            have hn58 : 0 < I31 82 8 := by rw [he44]; exact hz43
            have hx59 : sp_R K P V (8, a, dp, sk, ld, nm, cs) (.inr f41) := sp_R_t hst30 hR42
            show yi_D zi_Ms d zi_m87 j5 (45, [(2, .inl 1), (0, .inr (.inr (some 82))), (1, .inl (dp : Int))], [], (I31, L, R, Y), 0, 0) _
            refine yi_D_run 2 (47, [(2, .inl 1), (0, .inr (.inr (some 82))), (1, .inl (dp : Int))], [.inl 1, .inr (.inr (some 82))], (I31, L, R, Y), 0, 0) (fun _ => rfl) ?_
            refine yi_D_if1 false rfl (by decide) ?_
            refine yi_D_run 3 (58, [(2, .inl 1), (0, .inr (.inr (some 82))), (1, .inl (dp : Int))], [.inl 0, .inl 9, .inr (.inr (some 82))], (I31, L, R, Y), 0, 0) (fun _ => rfl) ?_
            refine yi_D_callv rfl (q_emit hW56) ?_
            rintro _ ⟨I60, rfl, hE61⟩
            have hW62 := mt_W_t hW56 (mt_E_F hE61)
            have hF63 := mt_F_t hF57 (mt_E_F hE61)
            have hf64 : 0 < I60 82 8 := by rw [hE61.1 82 8 (by omega)]; exact hn58
            have he65 := (hE61.1 82 8 (by omega)).trans he44
            show yi_D zi_Ms d zi_m87 j5 (61, [(2, .inl 1), (0, .inr (.inr (some 82))), (1, .inl (dp : Int))], [], (I60, L, R, Y), 0, 0) _
            refine yi_D_run 1 (5, [(2, .inl 1), (0, .inr (.inr (some 82))), (1, .inl (dp : Int))], [], (I60, L, R, Y), 0, 0) (fun _ => rfl) ?_
            refine yi_D_run 2 (8, [(2, .inl 1), (0, .inr (.inr (some 82))), (1, .inl (dp : Int))], [.inl 27, .inr (.inr (some 82))], (I60, L, R, Y), 0, 0) (fun _ => rfl) ?_
            refine yi_D_callv rfl (q_isWord_f hW62 hf64) ?_
            rintro _ rfl
            show yi_D zi_Ms d zi_m87 j5 (11, [(2, .inl 1), (0, .inr (.inr (some 82))), (1, .inl (dp : Int))], [.inl 0], (I60, L, R, Y), 0, 0) _
            refine yi_D_if1 false rfl (by decide) ?_
            refine yi_D_run 2 (17, [(2, .inl 1), (0, .inr (.inr (some 82))), (1, .inl (dp : Int))], [.inl 28, .inr (.inr (some 82))], (I60, L, R, Y), 0, 0) (fun _ => rfl) ?_
            refine yi_D_callv rfl (q_isWord_f hW62 hf64) ?_
            rintro _ rfl
            show yi_D zi_Ms d zi_m87 j5 (20, [(2, .inl 1), (0, .inr (.inr (some 82))), (1, .inl (dp : Int))], [.inl 0], (I60, L, R, Y), 0, 0) _
            refine yi_D_if1 true rfl (by decide) ?_
            refine yi_D_retv rfl ?_
            exact ⟨_, rfl, hF63, Or.inr ⟨_, hx59, hz43, he65⟩⟩
        · exfalso; omega
      · show yi_D zi_Ms d zi_m87 j5 (11, [(0, .inr (.inr (some 82))), (1, .inl (dp : Int)), (2, .inl y2)], [.inl 0], (J1, L, R, Y), 0, 0) _
        refine yi_D_if1 false rfl (by decide) ?_
        refine yi_D_run 2 (17, [(0, .inr (.inr (some 82))), (1, .inl (dp : Int)), (2, .inl y2)], [.inl 28, .inr (.inr (some 82))], (J1, L, R, Y), 0, 0) (fun _ => rfl) ?_
        refine yi_D_callv rfl (q_isWord_z (by omega) (by omega) hW9 hf9 hA9) ?_
        rintro _ (⟨c66, rfl⟩ | ⟨c66, rfl⟩)
        · show yi_D zi_Ms d zi_m87 j5 (20, [(0, .inr (.inr (some 82))), (1, .inl (dp : Int)), (2, .inl y2)], [.inl 1], (J1, L, R, Y), 0, 0) _
          refine yi_D_if1 false rfl (by decide) ?_
          refine yi_D_run 2 (26, [(0, .inr (.inr (some 82))), (1, .inl (dp : Int)), (2, .inl y2)], [.inl 27, .inr (.inr (some 82))], (J1, L, R, Y), 0, 0) (fun _ => rfl) ?_
          refine yi_D_callv rfl (q_isWord_z (by omega) (by omega) hW9 hf9 hA9) ?_
          rintro _ (⟨c67, rfl⟩ | ⟨c67, rfl⟩)
          · exfalso; omega
          · show yi_D zi_Ms d zi_m87 j5 (29, [(0, .inr (.inr (some 82))), (1, .inl (dp : Int)), (2, .inl y2)], [.inl 0], (J1, L, R, Y), 0, 0) _
            refine yi_D_run 3 (32, [(2, .inl 0), (0, .inr (.inr (some 82))), (1, .inl (dp : Int))], [.inr (.inr (some 82)), .inr (.inr (some 82))], (J1, L, R, Y), 0, 0) (fun _ => rfl) ?_
            refine yi_D_gi (v := (a1 : Int)) rfl rfl rfl hA9.1 (fun _ => ?_)
            refine yi_D_run 1 (36, [(2, .inl 0), (0, .inr (.inr (some 82))), (1, .inl (dp : Int))], [.inl 1, .inl (a1 : Int), .inr (.inr (some 82))], (J1, L, R, Y), 0, 0) (fun _ => rfl) ?_
            refine yi_D_iadd rfl ((a1 : Int) + 1) (yi_wn (by omega) (by omega)) ?_
            refine yi_D_pi rfl (fun _ => ?_)
            generalize w69 : yi_u J1 82 7 ((a1 : Int) + 1) = I68
            have hGn70 : mt_G J1 I68 := fun p k hp => by rw [← w69, yi_u_ne _ _ (by omega)]
            have hW71 := mt_W_t hW9 (mt_G_F hGn70)
            have hF72 := mt_F_t hF9 (mt_G_F hGn70)
            have hmc73 := mc_G hm9 hGn70
            have hf74 : I68 82 8 = 0 := by rw [← w69, yi_u_ne _ _ (by omega)]; exact hf9
            have hA75 : mt_A I68 te (a1 + 1) := ⟨by rw [← w69, yi_u_eq]; omega, mt_lt hW71.2.1 hA9.2 (by omega)⟩
            refine yi_D_run 2 (42, [(2, .inl 0), (0, .inr (.inr (some 82))), (1, .inl (dp : Int))], [.inl (dp : Int), .inr (.inr (some 82))], (I68, L, R, Y), 0, 0) (fun _ => rfl) ?_
            have hli := sp_lev_i (K a1)
            have hst76 : sp_R K P V (8, a, dp, sk, ld, nm, cs) (.inl (9, a1 + 1, dp, (100 + 8 * (K a1).toNat + 0) :: sk, ld, nm, cs1)) := sp_R_s hR9 ((sp_st13 (l := 0) (by omega)).trans (if_pos (by omega)))
            refine yi_D_callv rfl (hRS dp ((100 + 8 * (K a1).toNat + 0) :: sk) cs1 hW71 hf74 hA75 (by omega) hmc73) ?_
            rintro _ ⟨I77, rfl, hFr78, (⟨a79, cs80, hR81, lt82, hf83, hA84, hmc85, hwf86⟩ | ⟨f87, hR88, hz89, he90⟩)⟩
            · have hW91 := mt_W_t hW71 hFr78
              have hF92 := mt_F_t hF72 hFr78
              have hR93 := sp_R_s (sp_R_t hst76 hR81) (sp_st13b (l := 0) (by omega) (by omega))
              show yi_D zi_Ms d zi_m87 j5 (45, [(2, .inl 0), (0, .inr (.inr (some 82))), (1, .inl (dp : Int))], [], (I77, L, R, Y), 0, 0) _
              refine yi_D_run 2 (47, [(2, .inl 0), (0, .inr (.inr (some 82))), (1, .inl (dp : Int))], [.inl 0, .inr (.inr (some 82))], (I77, L, R, Y), 0, 0) (fun _ => rfl) ?_
              refine yi_D_if1 true rfl (by decide) ?_
              refine yi_D_run 2 (58, [(2, .inl 0), (0, .inr (.inr (some 82))), (1, .inl (dp : Int))], [.inl 0, .inl 10, .inr (.inr (some 82))], (I77, L, R, Y), 0, 0) (fun _ => rfl) ?_
              refine yi_D_callv rfl (q_emitC hW91 hmc85) ?_
              rintro _ ⟨I94, rfl, hE95, hmc96⟩
              have hW97 := mt_W_t hW91 (mt_E_F hE95)
              have hF98 := mt_F_t hF92 (mt_E_F hE95)
              have hf99 : I94 82 8 = 0 := (hE95.1 82 8 (by omega)).trans hf83
              have hA100 : mt_A I94 te a79 := ⟨(hE95.1 82 7 (by omega)).trans hA84.1, hA84.2⟩
              have hmc96 : mc_S gg I94 (cs80 ++ [(sp_sg (K a1).toNat, 0)]) := by rw [show ((sp_sg (K a1).toNat, 0) : Int × Int) = (10, 0) from (by rw [show (K a1).toNat = 32 by omega]; rfl)]; exact hmc96
              have hwf101 : wfX okP (25 - 4 * dp) cs (cs80 ++ [(sp_sg (K a1).toNat, 0)]) := wfX_2 hwf9 hwf86 (by omega) sp_sg_b okP_sg
              show yi_D zi_Ms d zi_m87 j5 (61, [(2, .inl 0), (0, .inr (.inr (some 82))), (1, .inl (dp : Int))], [], (I94, L, R, Y), 0, 0) _
              refine yi_D_run 1 (5, [(2, .inl 0), (0, .inr (.inr (some 82))), (1, .inl (dp : Int))], [], (I94, L, R, Y), 0, 0) (fun _ => rfl) ?_
              refine yi_D_al (al := [(0, .inr (.inr (some 82))), (1, .inl (dp : Int)), (2, .inl 0)]) (show ([0, 1, 2] : List Nat).Nodup by decide) (show ([2, 0, 1] : List Nat).Nodup by decide) (yi_mc (List.mem_of_getElem? (i := 2) rfl) (yi_mc (List.mem_of_getElem? (i := 0) rfl) (yi_mc (List.mem_of_getElem? (i := 1) rfl) yi_mn))) ?_
              exact yi_D_mono (ih5 (by omega) 0 I94 a79 (cs80 ++ [(sp_sg (K a1).toNat, 0)]) (by omega) hF98 hf99 hA100 hR93 hmc96 hwf101) (by omega)
            · have hW102 := mt_W_t hW71 hFr78
              have hF103 := mt_F_t hF72 hFr78
              have hn104 : 0 < I77 82 8 := by rw [he90]; exact hz89
              have hx105 : sp_R K P V (8, a, dp, sk, ld, nm, cs) (.inr f87) := sp_R_t hst76 hR88
              show yi_D zi_Ms d zi_m87 j5 (45, [(2, .inl 0), (0, .inr (.inr (some 82))), (1, .inl (dp : Int))], [], (I77, L, R, Y), 0, 0) _
              refine yi_D_run 2 (47, [(2, .inl 0), (0, .inr (.inr (some 82))), (1, .inl (dp : Int))], [.inl 0, .inr (.inr (some 82))], (I77, L, R, Y), 0, 0) (fun _ => rfl) ?_
              refine yi_D_if1 true rfl (by decide) ?_
              refine yi_D_run 2 (58, [(2, .inl 0), (0, .inr (.inr (some 82))), (1, .inl (dp : Int))], [.inl 0, .inl 10, .inr (.inr (some 82))], (I77, L, R, Y), 0, 0) (fun _ => rfl) ?_
              refine yi_D_callv rfl (q_emit hW102) ?_
              rintro _ ⟨I106, rfl, hE107⟩
              have hW108 := mt_W_t hW102 (mt_E_F hE107)
              have hF109 := mt_F_t hF103 (mt_E_F hE107)
              have hf110 : 0 < I106 82 8 := by rw [hE107.1 82 8 (by omega)]; exact hn104
              have he111 := (hE107.1 82 8 (by omega)).trans he90
              show yi_D zi_Ms d zi_m87 j5 (61, [(2, .inl 0), (0, .inr (.inr (some 82))), (1, .inl (dp : Int))], [], (I106, L, R, Y), 0, 0) _
              refine yi_D_run 1 (5, [(2, .inl 0), (0, .inr (.inr (some 82))), (1, .inl (dp : Int))], [], (I106, L, R, Y), 0, 0) (fun _ => rfl) ?_
              refine yi_D_run 2 (8, [(2, .inl 0), (0, .inr (.inr (some 82))), (1, .inl (dp : Int))], [.inl 27, .inr (.inr (some 82))], (I106, L, R, Y), 0, 0) (fun _ => rfl) ?_
              refine yi_D_callv rfl (q_isWord_f hW108 hf110) ?_
              rintro _ rfl
              show yi_D zi_Ms d zi_m87 j5 (11, [(2, .inl 0), (0, .inr (.inr (some 82))), (1, .inl (dp : Int))], [.inl 0], (I106, L, R, Y), 0, 0) _
              refine yi_D_if1 false rfl (by decide) ?_
              refine yi_D_run 2 (17, [(2, .inl 0), (0, .inr (.inr (some 82))), (1, .inl (dp : Int))], [.inl 28, .inr (.inr (some 82))], (I106, L, R, Y), 0, 0) (fun _ => rfl) ?_
              refine yi_D_callv rfl (q_isWord_f hW108 hf110) ?_
              rintro _ rfl
              show yi_D zi_Ms d zi_m87 j5 (20, [(2, .inl 0), (0, .inr (.inr (some 82))), (1, .inl (dp : Int))], [.inl 0], (I106, L, R, Y), 0, 0) _
              refine yi_D_if1 true rfl (by decide) ?_
              refine yi_D_retv rfl ?_
              exact ⟨_, rfl, hF109, Or.inr ⟨_, hx105, hz89, he111⟩⟩
        · show yi_D zi_Ms d zi_m87 j5 (20, [(0, .inr (.inr (some 82))), (1, .inl (dp : Int)), (2, .inl y2)], [.inl 0], (J1, L, R, Y), 0, 0) _
          refine yi_D_if1 true rfl (by decide) ?_
          refine yi_D_retv rfl ?_
          have hli := sp_lev_i (K a1)
          have hstd := sp_R_s hR9 ((sp_st13 (l := 0) (by omega)).trans (if_neg (by omega)))
          exact ⟨_, rfl, hF9, Or.inl ⟨_, _, hstd, by omega, hf9, hA9, hm9, hwf9⟩⟩
    refine yi_D_al (al := [(0, .inr (.inr (some 82))), (1, .inl (dp : Int)), (2, .inl 0)]) (show ([0, 1, 2] : List Nat).Nodup by decide) (show ([0, 1] : List Nat).Nodup by decide) (yi_mc (List.mem_of_getElem? (i := 0) rfl) (yi_mc (List.mem_of_getElem? (i := 1) rfl) yi_mn)) ?_
    exact pt5 k (Nat.le_refl _) 0 I2 a4 cs5 (by omega) hF17 hf8 hA9 hR18 hmc10 hwf19
  · have hW112 := mt_W_t hW hFr3
    have hF113 := hFr3
    have hn114 : 0 < I2 82 8 := by rw [he15]; exact hz14
    have hx115 : sp_R K P V (8, a, dp, sk, ld, nm, cs) (.inr f12) := sp_R_t hst1 hR13
    show yi_D zi_Ms d zi_m87 k (5, [(0, .inr (.inr (some 82))), (1, .inl (dp : Int))], [], (I2, L, R, Y), 0, 0) _
    refine yi_D_run 2 (8, [(0, .inr (.inr (some 82))), (1, .inl (dp : Int))], [.inl 27, .inr (.inr (some 82))], (I2, L, R, Y), 0, 0) (fun _ => rfl) ?_
    refine yi_D_callv rfl (q_isWord_f hW112 hn114) ?_
    rintro _ rfl
    show yi_D zi_Ms d zi_m87 k (11, [(0, .inr (.inr (some 82))), (1, .inl (dp : Int))], [.inl 0], (I2, L, R, Y), 0, 0) _
    refine yi_D_if1 false rfl (by decide) ?_
    refine yi_D_run 2 (17, [(0, .inr (.inr (some 82))), (1, .inl (dp : Int))], [.inl 28, .inr (.inr (some 82))], (I2, L, R, Y), 0, 0) (fun _ => rfl) ?_
    refine yi_D_callv rfl (q_isWord_f hW112 hn114) ?_
    rintro _ rfl
    show yi_D zi_Ms d zi_m87 k (20, [(0, .inr (.inr (some 82))), (1, .inl (dp : Int))], [.inl 0], (I2, L, R, Y), 0, 0) _
    refine yi_D_if1 true rfl (by decide) ?_
    refine yi_D_retv rfl ?_
    exact ⟨_, rfl, hF113, Or.inr ⟨_, hx115, hz14, he15⟩⟩
theorem q_readExprC : ∀ d, mt_RPC d ∧ mt_RDC d ∧ mt_RUC d ∧ mt_RSC d ∧ mt_ROC d
  | 0 => ⟨fun _ _ _ _ _ _ _ _ => yi_P_0, fun _ _ _ _ _ _ _ _ => yi_P_0, fun _ _ _ _ _ _ _ _ => yi_P_0, fun _ _ _ _ _ _ _ _ => yi_P_0, fun _ _ _ _ _ _ _ _ => yi_P_0⟩
  | d + 1 => by
    obtain ⟨h1, h2, h3, h4, h5⟩ := q_readExprC d
    exact ⟨fun dp sk cs hW hf hA hd hm => q_takePartC_s h1 h5 hW hf hA dp sk cs hd hm, fun dp sk cs hW hf hA hd hm => q_productsC_s h1 hW hf hA dp sk cs hd hm, fun dp sk cs hW hf hA hd hm => q_sumsC_s h2 hW hf hA dp sk cs hd hm, fun dp sk cs hW hf hA hd hm => q_testC_s h3 hW hf hA dp sk cs hd hm, fun dp sk cs hW hf hA hd hm => q_orsC_s h4 hW hf hA dp sk cs hd hm⟩
theorem q_orsC {d : Nat} : mt_ROC d := (q_readExprC d).2.2.2.2
