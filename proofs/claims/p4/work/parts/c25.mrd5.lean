/-! The check reader: items, terms, formulas. -/
theorem sp_cl_lt {K P V : Nat → Int} {ld : Nat → Int} {nm : Int → Int} {a a' : Nat} {x : Int} (h : sp_cl K P V ld nm a = .inl (a', x)) : a < a' := by
  unfold sp_cl at h
  split at h
  · exact sp_pair_lt h
  · exact sp_single_lt h
/-- what reading with a pile gives -/
def mt_QR (I L : Nat → Nat → Int) (R : Nat → Nat → Option Nat) (Y : (Nat → Nat) × (Nat → Nat) × Nat) (K P V : Nat → Int) (te : Nat) (c : sp_C) (e a dp : Nat) (sk : List Nat) (ld : Nat → Int) (nm : Int → Int) (r : yi_R) : Prop := ∃ I', r = (none, (I', L, R, Y), 0, 0) ∧ mt_F I I' ∧ ((∃ a' cs', sp_R K P V c (.inl (e, a', dp, sk, ld, nm, cs')) ∧ a < a' ∧ I' 82 8 = 0 ∧ mt_A I' te a') ∨ (∃ f, sp_R K P V c (.inr f) ∧ 0 < f ∧ I' 82 8 = f))
def mt_RI (d : Nat) : Prop := ∀ {I L : Nat → Nat → Int} {R : Nat → Nat → Option Nat} {Y : (Nat → Nat) × (Nat → Nat) × Nat} {K P V : Nat → Int} {te b a : Nat} {ld : Nat → Int} {nm : Int → Int} (dp : Nat) (sk : List Nat) (cs : List (Int × Int)), mt_W I L R Y K P V te b ld nm → I 82 8 = 0 → mt_A I te a → dp ≤ 5 → yi_P zi_Ms d 97 [.inr (.inr (some 82)), .inl (dp : Int)] (I, L, R, Y) (mt_QR I L R Y K P V te (3, a, dp, sk, ld, nm, cs) 4 a dp sk ld nm)
def mt_RT (d : Nat) : Prop := ∀ {I L : Nat → Nat → Int} {R : Nat → Nat → Option Nat} {Y : (Nat → Nat) × (Nat → Nat) × Nat} {K P V : Nat → Int} {te b a : Nat} {ld : Nat → Int} {nm : Int → Int} (dp : Nat) (sk : List Nat) (cs : List (Int × Int)), mt_W I L R Y K P V te b ld nm → I 82 8 = 0 → mt_A I te a → dp ≤ 5 → ∀ ef : Nat, ef = 10 ∨ ef = 11 → yi_P zi_Ms d 104 [.inr (.inr (some 82)), .inl (dp : Int)] (I, L, R, Y) (mt_QR I L R Y K P V te (3, a, dp, (ef :: sk), ld, nm, cs) 6 a dp sk ld nm)
def mt_RF (d : Nat) : Prop := ∀ {I L : Nat → Nat → Int} {R : Nat → Nat → Option Nat} {Y : (Nat → Nat) × (Nat → Nat) × Nat} {K P V : Nat → Int} {te b a : Nat} {ld : Nat → Int} {nm : Int → Int} (dp : Nat) (sk : List Nat) (cs : List (Int × Int)), mt_W I L R Y K P V te b ld nm → I 82 8 = 0 → mt_A I te a → dp ≤ 5 → yi_P zi_Ms d 96 [.inr (.inr (some 82)), .inl (dp : Int)] (I, L, R, Y) (mt_QR I L R Y K P V te (3, a, dp, (10 :: sk), ld, nm, cs) 7 a dp sk ld nm)
theorem q_readItem_f {d : Nat} {I L : Nat → Nat → Int} {R : Nat → Nat → Option Nat} {Y : (Nat → Nat) × (Nat → Nat) × Nat} {w : Int} {K P V : Nat → Int} {te b : Nat} {ld : Nat → Int} {nm : Int → Int} (hW : mt_W I L R Y K P V te b ld nm) (hf : 0 < I 82 8) : yi_P zi_Ms d 97 [.inr (.inr (some 82)), .inl w] (I, L, R, Y) (fun r => r = (none, (I, L, R, Y), 0, 0)) := by
  refine yi_P_of (M := zi_m97) rfl (fun d k => ?_)
  have hS := hW.1
  show yi_D zi_Ms d zi_m97 k (0, [(0, .inr (.inr (some 82))), (1, .inl w)], [], (I, L, R, Y), 0, 0) _
  refine yi_D_run 1 (1, [(0, .inr (.inr (some 82))), (1, .inl w)], [.inr (.inr (some 82))], (I, L, R, Y), 0, 0) (fun _ => rfl) ?_
  refine yi_D_gi (v := I 82 8) rfl rfl rfl rfl (fun _ => ?_)
  have h1 : ¬ ((I 82 8) ≤ 0) := by omega
  refine yi_D_if1 false rfl (yi_le_f h1) ?_
  refine yi_D_retv rfl ?_
  rfl
theorem q_readTerm_f {d : Nat} {I L : Nat → Nat → Int} {R : Nat → Nat → Option Nat} {Y : (Nat → Nat) × (Nat → Nat) × Nat} {w : Int} {K P V : Nat → Int} {te b : Nat} {ld : Nat → Int} {nm : Int → Int} (hW : mt_W I L R Y K P V te b ld nm) (hf : 0 < I 82 8) : yi_P zi_Ms d 104 [.inr (.inr (some 82)), .inl w] (I, L, R, Y) (fun r => ∃ I', r = (none, (I', L, R, Y), 0, 0) ∧ mt_G I I' ∧ I' 82 8 = I 82 8) := by
  refine yi_P_of (M := zi_m104) rfl (fun d k => ?_)
  have hS := hW.1
  show yi_D zi_Ms d zi_m104 k (0, [(0, .inr (.inr (some 82))), (1, .inl w)], [], (I, L, R, Y), 0, 0) _
  refine yi_D_run 2 (2, [(0, .inr (.inr (some 82))), (1, .inl w)], [.inl w, .inr (.inr (some 82))], (I, L, R, Y), 0, 0) (fun _ => rfl) ?_
  refine yi_D_callv rfl (q_readItem_f hW hf) ?_
  rintro _ rfl
  show yi_D zi_Ms d zi_m104 k (5, [(0, .inr (.inr (some 82))), (1, .inl w)], [], (I, L, R, Y), 0, 0) _
  refine yi_D_run 2 (8, [(0, .inr (.inr (some 82))), (1, .inl w)], [.inl 27, .inr (.inr (some 82))], (I, L, R, Y), 0, 0) (fun _ => rfl) ?_
  refine yi_D_callv rfl (q_hasWord_f hW hf) ?_
  rintro _ ⟨I1, rfl, hGa2, hq3⟩
  have hW4 := mt_W_t hW (mt_G_F hGa2)
  have hF5 := (mt_G_F hGa2)
  have hG6 := hGa2
  have hf7 : 0 < I1 82 8 := by rw [hq3]; exact hf
  show yi_D zi_Ms d zi_m104 k (11, [(0, .inr (.inr (some 82))), (1, .inl w)], [.inl 0], (I1, L, R, Y), 0, 0) _
  refine yi_D_if1 true rfl (by decide) ?_
  refine yi_D_retv rfl ?_
  exact ⟨_, rfl, hG6, by rw [hq3]⟩
theorem q_readFormula_f {d : Nat} {I L : Nat → Nat → Int} {R : Nat → Nat → Option Nat} {Y : (Nat → Nat) × (Nat → Nat) × Nat} {w : Int} {K P V : Nat → Int} {te b : Nat} {ld : Nat → Int} {nm : Int → Int} (hW : mt_W I L R Y K P V te b ld nm) (hf : 0 < I 82 8) : yi_P zi_Ms d 96 [.inr (.inr (some 82)), .inl w] (I, L, R, Y) (fun r => ∃ I', r = (none, (I', L, R, Y), 0, 0) ∧ mt_G I I' ∧ I' 82 8 = I 82 8) := by
  refine yi_P_of (M := zi_m96) rfl (fun d k => ?_)
  have hS := hW.1
  show yi_D zi_Ms d zi_m96 k (0, [(0, .inr (.inr (some 82))), (1, .inl w)], [], (I, L, R, Y), 0, 0) _
  refine yi_D_run 2 (2, [(0, .inr (.inr (some 82))), (1, .inl w)], [.inl w, .inr (.inr (some 82))], (I, L, R, Y), 0, 0) (fun _ => rfl) ?_
  refine yi_D_callv rfl (q_readTerm_f hW hf) ?_
  rintro _ ⟨I1, rfl, hGa2, hq3⟩
  have hW4 := mt_W_t hW (mt_G_F hGa2)
  have hF5 := (mt_G_F hGa2)
  have hG6 := hGa2
  have hf7 : 0 < I1 82 8 := by rw [hq3]; exact hf
  show yi_D zi_Ms d zi_m96 k (5, [(0, .inr (.inr (some 82))), (1, .inl w)], [], (I1, L, R, Y), 0, 0) _
  refine yi_D_run 2 (8, [(0, .inr (.inr (some 82))), (1, .inl w)], [.inl 28, .inr (.inr (some 82))], (I1, L, R, Y), 0, 0) (fun _ => rfl) ?_
  refine yi_D_callv rfl (q_hasWord_f hW4 hf7) ?_
  rintro _ ⟨I8, rfl, hGa9, hq10⟩
  have hW11 := mt_W_t hW4 (mt_G_F hGa9)
  have hF12 := mt_F_t hF5 (mt_G_F hGa9)
  have hG13 := mt_G_t hG6 hGa9
  have hf14 : 0 < I8 82 8 := by rw [hq10]; exact hf7
  show yi_D zi_Ms d zi_m96 k (11, [(0, .inr (.inr (some 82))), (1, .inl w)], [.inl 0], (I8, L, R, Y), 0, 0) _
  refine yi_D_if1 true rfl (by decide) ?_
  refine yi_D_retv rfl ?_
  exact ⟨_, rfl, hG13, by rw [hq10, hq3]⟩
theorem q_readItem_s {d : Nat} {I L : Nat → Nat → Int} {R : Nat → Nat → Option Nat} {Y : (Nat → Nat) × (Nat → Nat) × Nat} (hRI : mt_RI d) (hRF : mt_RF d) {K P V : Nat → Int} {te b a : Nat} {ld : Nat → Int} {nm : Int → Int} (hW : mt_W I L R Y K P V te b ld nm) (hf : I 82 8 = 0) (hA : mt_A I te a) (dp : Nat) (sk : List Nat) (cs : List (Int × Int)) (hd : dp ≤ 5) : yi_P zi_Ms (d + 1) 97 [.inr (.inr (some 82)), .inl (dp : Int)] (I, L, R, Y) (mt_QR I L R Y K P V te (3, a, dp, sk, ld, nm, cs) 4 a dp sk ld nm) := by
  refine yi_P_s (M := zi_m97) rfl (fun k => ?_)
  have hS := hW.1
  have ht := hW.2.1.1
  have ha := hA.2
  have hp := hW.2.1.2.1 a hA.2
  show yi_D zi_Ms d zi_m97 k (0, [(0, .inr (.inr (some 82))), (1, .inl (dp : Int))], [], (I, L, R, Y), 0, 0) _
  refine yi_D_run 1 (1, [(0, .inr (.inr (some 82))), (1, .inl (dp : Int))], [.inr (.inr (some 82))], (I, L, R, Y), 0, 0) (fun _ => rfl) ?_
  refine yi_D_gi (v := 0) rfl rfl rfl hf (fun _ => ?_)
  refine yi_D_if1 true rfl (by decide) ?_
  refine yi_D_run 1 (9, [(0, .inr (.inr (some 82))), (1, .inl (dp : Int))], [.inr (.inr (some 82))], (I, L, R, Y), 0, 0) (fun _ => rfl) ?_
  refine yi_D_callv rfl (q_isName_z hW hf hA) ?_
  rintro _ (⟨c1, rfl⟩ | ⟨c1, rfl⟩)
  · show yi_D zi_Ms d zi_m97 k (12, [(0, .inr (.inr (some 82))), (1, .inl (dp : Int))], [.inl 1], (I, L, R, Y), 0, 0) _
    refine yi_D_if1 true rfl (by decide) ?_
    refine yi_D_run 4 (76, [(2, .inl 1), (0, .inr (.inr (some 82))), (1, .inl (dp : Int))], [.inl 1], (I, L, R, Y), 0, 0) (fun _ => rfl) ?_
    refine yi_D_if1 true rfl (by decide) ?_
    refine yi_D_run 1 (88, [(2, .inl 1), (0, .inr (.inr (some 82))), (1, .inl (dp : Int))], [.inr (.inr (some 82))], (I, L, R, Y), 0, 0) (fun _ => rfl) ?_
    refine yi_D_callv rfl (q_isName_z hW hf hA) ?_
    rintro _ (⟨c2, rfl⟩ | ⟨c2, rfl⟩)
    · show yi_D zi_Ms d zi_m97 k (91, [(2, .inl 1), (0, .inr (.inr (some 82))), (1, .inl (dp : Int))], [.inl 1], (I, L, R, Y), 0, 0) _
      refine yi_D_if1 false rfl (by decide) ?_
      refine yi_D_run 1 (95, [(2, .inl 1), (0, .inr (.inr (some 82))), (1, .inl (dp : Int))], [.inr (.inr (some 82))], (I, L, R, Y), 0, 0) (fun _ => rfl) ?_
      refine yi_D_callv rfl (q_find_z hW hf hA (by omega)) ?_
      rintro _ rfl
      show yi_D zi_Ms d zi_m97 k (98, [(2, .inl 1), (0, .inr (.inr (some 82))), (1, .inl (dp : Int))], [.inl (nm (V a))], (I, L, R, Y), 0, 0) _
      refine yi_D_run 2 (100, [(2, .inl 1), (0, .inr (.inr (some 82))), (1, .inl (dp : Int))], [.inl 3, .inl 0, .inl (nm (V a))], (I, L, R, Y), 0, 0) (fun _ => rfl) ?_
      refine yi_D_calls rfl (q_within) ?_
      rintro _ (⟨c3, rfl⟩ | ⟨c3, rfl⟩)
      · show yi_D zi_Ms d zi_m97 k (103, [(2, .inl 1), (0, .inr (.inr (some 82))), (1, .inl (dp : Int))], [.inl 1], (I, L, R, Y), 0, 0) _
        refine yi_D_if1 true rfl (by decide) ?_
        refine yi_D_run 2 (116, [(2, .inl 1), (0, .inr (.inr (some 82))), (1, .inl (dp : Int))], [.inl 5, .inl (dp : Int)], (I, L, R, Y), 0, 0) (fun _ => rfl) ?_
        by_cases h4 : (dp : Int) = 5
        · refine yi_D_if2 false rfl (yi_ne_f h4) ?_
          refine yi_D_run 2 (121, [(2, .inl 1), (0, .inr (.inr (some 82))), (1, .inl (dp : Int))], [.inl 5, .inr (.inr (some 82))], (I, L, R, Y), 0, 0) (fun _ => rfl) ?_
          refine yi_D_callv rfl (q_wrong_z ⟨by omega, by omega⟩ hW hf hA) ?_
          rintro _ ⟨I5, rfl, hg6, he7⟩
          have hGw8 : mt_G I I5 := fun p k hp => hg6 p k (by omega)
          have hW9 := mt_W_t hW (mt_G_F hGw8)
          have hF10 := (mt_G_F hGw8)
          have hG11 := hGw8
          have hz12 : 0 < sp_f P a 5 := mt_f_ne hW hA.2 (by omega)
          have hn13 : 0 < I5 82 8 := by rw [he7]; exact hz12
          have hx14 : sp_R K P V (3, a, dp, sk, ld, nm, cs) (.inr (sp_f P a 5)) := sp_R_1 (by
            show sp_item K P V a dp sk ld nm cs = _
            first
            | (exfalso; omega)
            | (unfold sp_item; (repeat (first | rw [if_pos (by omega)] | rw [if_neg (by omega)])); done))
          show yi_D zi_Ms d zi_m97 k (124, [(2, .inl 1), (0, .inr (.inr (some 82))), (1, .inl (dp : Int))], [], (I5, L, R, Y), 0, 0) _
          refine yi_D_run 1 (125, [(2, .inl 1), (0, .inr (.inr (some 82))), (1, .inl (dp : Int))], [.inr (.inr (some 82))], (I5, L, R, Y), 0, 0) (fun _ => rfl) ?_
          refine yi_D_gi (v := I5 82 8) rfl rfl rfl rfl (fun _ => ?_)
          have h15 : ¬ ((I5 82 8) ≤ 0) := by omega
          refine yi_D_if1 false rfl (yi_le_f h15) ?_
          refine yi_D_retv rfl ?_
          exact ⟨_, rfl, hF10, Or.inr ⟨_, hx14, hz12, he7⟩⟩
        · refine yi_D_if2 true rfl (yi_ne_t h4) ?_
          refine yi_D_run 1 (125, [(2, .inl 1), (0, .inr (.inr (some 82))), (1, .inl (dp : Int))], [.inr (.inr (some 82))], (I, L, R, Y), 0, 0) (fun _ => rfl) ?_
          refine yi_D_gi (v := 0) rfl rfl rfl hf (fun _ => ?_)
          refine yi_D_if1 true rfl (by decide) ?_
          refine yi_D_run 2 (135, [(2, .inl 1), (0, .inr (.inr (some 82))), (1, .inl (dp : Int))], [.inl 26, .inr (.inr (some 82))], (I, L, R, Y), 0, 0) (fun _ => rfl) ?_
          refine yi_D_callv rfl (q_hasWord_z (by omega) (by omega) hW hf hA) ?_
          rintro _ (⟨c16, I17, rfl, hGa18, hf19, hA20⟩ | ⟨c21, I22, rfl, hGa23, hf24, hA25⟩)
          · exfalso; omega
          · have hA25 : mt_A I22 te a := hA25
            have hW26 := mt_W_t hW (mt_G_F hGa23)
            have hF27 := (mt_G_F hGa23)
            have hG28 := hGa23
            show yi_D zi_Ms d zi_m97 k (138, [(2, .inl 1), (0, .inr (.inr (some 82))), (1, .inl (dp : Int))], [.inl 0], (I22, L, R, Y), 0, 0) _
            refine yi_D_if1 true rfl (by decide) ?_
            refine yi_D_run 2 (160, [(2, .inl 1), (0, .inr (.inr (some 82))), (1, .inl (dp : Int))], [.inl 40, .inr (.inr (some 82))], (I22, L, R, Y), 0, 0) (fun _ => rfl) ?_
            refine yi_D_callv rfl (q_hasSign_z (by omega) hW26 hf24 hA25) ?_
            rintro _ (⟨c29, I30, rfl, hGa31, hf32, hA33⟩ | ⟨c34, I35, rfl, hGa36, hf37, hA38⟩)
            · exfalso; omega
            · have hA38 : mt_A I35 te a := hA38
              have hW39 := mt_W_t hW26 (mt_G_F hGa36)
              have hF40 := mt_F_t hF27 (mt_G_F hGa36)
              have hG41 := mt_G_t hG28 hGa36
              show yi_D zi_Ms d zi_m97 k (163, [(2, .inl 1), (0, .inr (.inr (some 82))), (1, .inl (dp : Int))], [.inl 0], (I35, L, R, Y), 0, 0) _
              refine yi_D_if1 true rfl (by decide) ?_
              refine yi_D_run 3 (186, [(2, .inl 1), (0, .inr (.inr (some 82))), (1, .inl (dp : Int))], [.inr (.inr (some 82)), .inl 11, .inr (.inr (some 82))], (I35, L, R, Y), 0, 0) (fun _ => rfl) ?_
              refine yi_D_callv rfl (q_readClause hW39 hf37 hA38 (by omega) (by omega)) ?_
              rintro _ ⟨z43, I42, rfl, hGc44, (⟨a45, x46, hs47, hf48, hA49⟩ | ⟨f50, hs47, hz51, he52⟩)⟩
              · have hW53 := mt_W_t hW39 (mt_G_F hGc44)
                have hF54 := mt_F_t hF40 (mt_G_F hGc44)
                have hG55 := mt_G_t hG41 hGc44
                have hR56 : sp_R K P V (3, a, dp, sk, ld, nm, cs) (.inl (4, a45, dp, sk, ld, nm, cs ++ [(11, x46)])) := sp_R_1 (by
                  show sp_item K P V a dp sk ld nm cs = _
                  unfold sp_item
                  (repeat (first | rw [if_pos (by omega)] | rw [if_neg (by omega)]))
                  rw [hs47])
                have lt57 : a < a45 := sp_cl_lt hs47
                show yi_D zi_Ms d zi_m97 k (189, [(2, .inl 1), (0, .inr (.inr (some 82))), (1, .inl (dp : Int))], [.inl z43, .inl 11, .inr (.inr (some 82))], (I42, L, R, Y), 0, 0) _
                refine yi_D_callv rfl (q_emit hW53) ?_
                rintro _ ⟨I58, rfl, hE59⟩
                have hW60 := mt_W_t hW53 (mt_E_F hE59)
                have hF61 := mt_F_t hF54 (mt_E_F hE59)
                have hf62 : I58 82 8 = 0 := (hE59.1 82 8 (by omega)).trans hf48
                have hA63 : mt_A I58 te a45 := ⟨(hE59.1 82 7 (by omega)).trans hA49.1, hA49.2⟩
                show yi_D zi_Ms d zi_m97 k (192, [(2, .inl 1), (0, .inr (.inr (some 82))), (1, .inl (dp : Int))], [], (I58, L, R, Y), 0, 0) _
                refine yi_D_retv rfl ?_
                exact ⟨_, rfl, hF61, Or.inl ⟨_, _, hR56, by omega, hf62, hA63⟩⟩
              · have hW64 := mt_W_t hW39 (mt_G_F hGc44)
                have hF65 := mt_F_t hF40 (mt_G_F hGc44)
                have hG66 := mt_G_t hG41 hGc44
                have hn67 : 0 < I42 82 8 := by rw [he52]; exact hz51
                have hx68 : sp_R K P V (3, a, dp, sk, ld, nm, cs) (.inr f50) := sp_R_1 (by
                  show sp_item K P V a dp sk ld nm cs = _
                  unfold sp_item
                  (repeat (first | rw [if_pos (by omega)] | rw [if_neg (by omega)]))
                  rw [hs47])
                show yi_D zi_Ms d zi_m97 k (189, [(2, .inl 1), (0, .inr (.inr (some 82))), (1, .inl (dp : Int))], [.inl z43, .inl 11, .inr (.inr (some 82))], (I42, L, R, Y), 0, 0) _
                refine yi_D_callv rfl (q_emit hW64) ?_
                rintro _ ⟨I69, rfl, hE70⟩
                have hW71 := mt_W_t hW64 (mt_E_F hE70)
                have hF72 := mt_F_t hF65 (mt_E_F hE70)
                have hf73 : 0 < I69 82 8 := by rw [hE70.1 82 8 (by omega)]; exact hn67
                have he74 := (hE70.1 82 8 (by omega)).trans he52
                show yi_D zi_Ms d zi_m97 k (192, [(2, .inl 1), (0, .inr (.inr (some 82))), (1, .inl (dp : Int))], [], (I69, L, R, Y), 0, 0) _
                refine yi_D_retv rfl ?_
                exact ⟨_, rfl, hF72, Or.inr ⟨_, hx68, hz51, he74⟩⟩
      · show yi_D zi_Ms d zi_m97 k (103, [(2, .inl 1), (0, .inr (.inr (some 82))), (1, .inl (dp : Int))], [.inl 0], (I, L, R, Y), 0, 0) _
        refine yi_D_if1 false rfl (by decide) ?_
        refine yi_D_run 2 (108, [(2, .inl 1), (0, .inr (.inr (some 82))), (1, .inl (dp : Int))], [.inl 2, .inr (.inr (some 82))], (I, L, R, Y), 0, 0) (fun _ => rfl) ?_
        refine yi_D_callv rfl (q_wrong_z ⟨by omega, by omega⟩ hW hf hA) ?_
        rintro _ ⟨I75, rfl, hg76, he77⟩
        have hGw78 : mt_G I I75 := fun p k hp => hg76 p k (by omega)
        have hW79 := mt_W_t hW (mt_G_F hGw78)
        have hF80 := (mt_G_F hGw78)
        have hG81 := hGw78
        have hz82 : 0 < sp_f P a 2 := mt_f_ne hW hA.2 (by omega)
        have hn83 : 0 < I75 82 8 := by rw [he77]; exact hz82
        have hx84 : sp_R K P V (3, a, dp, sk, ld, nm, cs) (.inr (sp_f P a 2)) := sp_R_1 (by
          show sp_item K P V a dp sk ld nm cs = _
          first
          | (exfalso; omega)
          | (unfold sp_item; (repeat (first | rw [if_pos (by omega)] | rw [if_neg (by omega)])); done))
        show yi_D zi_Ms d zi_m97 k (111, [(2, .inl 1), (0, .inr (.inr (some 82))), (1, .inl (dp : Int))], [], (I75, L, R, Y), 0, 0) _
        refine yi_D_run 2 (125, [(2, .inl 1), (0, .inr (.inr (some 82))), (1, .inl (dp : Int))], [.inr (.inr (some 82))], (I75, L, R, Y), 0, 0) (fun _ => rfl) ?_
        refine yi_D_gi (v := I75 82 8) rfl rfl rfl rfl (fun _ => ?_)
        have h85 : ¬ ((I75 82 8) ≤ 0) := by omega
        refine yi_D_if1 false rfl (yi_le_f h85) ?_
        refine yi_D_retv rfl ?_
        exact ⟨_, rfl, hF80, Or.inr ⟨_, hx84, hz82, he77⟩⟩
    · exfalso; omega
  · show yi_D zi_Ms d zi_m97 k (12, [(0, .inr (.inr (some 82))), (1, .inl (dp : Int))], [.inl 0], (I, L, R, Y), 0, 0) _
    refine yi_D_if1 false rfl (by decide) ?_
    refine yi_D_run 2 (18, [(0, .inr (.inr (some 82))), (1, .inl (dp : Int))], [.inl 10, .inr (.inr (some 82))], (I, L, R, Y), 0, 0) (fun _ => rfl) ?_
    refine yi_D_callv rfl (q_isWord_z (by omega) (by omega) hW hf hA) ?_
    rintro _ (⟨c86, rfl⟩ | ⟨c86, rfl⟩)
    · show yi_D zi_Ms d zi_m97 k (21, [(0, .inr (.inr (some 82))), (1, .inl (dp : Int))], [.inl 1], (I, L, R, Y), 0, 0) _
      refine yi_D_if1 true rfl (by decide) ?_
      refine yi_D_run 4 (76, [(2, .inl 1), (0, .inr (.inr (some 82))), (1, .inl (dp : Int))], [.inl 1], (I, L, R, Y), 0, 0) (fun _ => rfl) ?_
      refine yi_D_if1 true rfl (by decide) ?_
      refine yi_D_run 1 (88, [(2, .inl 1), (0, .inr (.inr (some 82))), (1, .inl (dp : Int))], [.inr (.inr (some 82))], (I, L, R, Y), 0, 0) (fun _ => rfl) ?_
      refine yi_D_callv rfl (q_isName_z hW hf hA) ?_
      rintro _ (⟨c87, rfl⟩ | ⟨c87, rfl⟩)
      · exfalso; omega
      · show yi_D zi_Ms d zi_m97 k (91, [(2, .inl 1), (0, .inr (.inr (some 82))), (1, .inl (dp : Int))], [.inl 0], (I, L, R, Y), 0, 0) _
        refine yi_D_if1 true rfl (by decide) ?_
        refine yi_D_run 2 (116, [(2, .inl 1), (0, .inr (.inr (some 82))), (1, .inl (dp : Int))], [.inl 5, .inl (dp : Int)], (I, L, R, Y), 0, 0) (fun _ => rfl) ?_
        by_cases h88 : (dp : Int) = 5
        · refine yi_D_if2 false rfl (yi_ne_f h88) ?_
          refine yi_D_run 2 (121, [(2, .inl 1), (0, .inr (.inr (some 82))), (1, .inl (dp : Int))], [.inl 5, .inr (.inr (some 82))], (I, L, R, Y), 0, 0) (fun _ => rfl) ?_
          refine yi_D_callv rfl (q_wrong_z ⟨by omega, by omega⟩ hW hf hA) ?_
          rintro _ ⟨I89, rfl, hg90, he91⟩
          have hGw92 : mt_G I I89 := fun p k hp => hg90 p k (by omega)
          have hW93 := mt_W_t hW (mt_G_F hGw92)
          have hF94 := (mt_G_F hGw92)
          have hG95 := hGw92
          have hz96 : 0 < sp_f P a 5 := mt_f_ne hW hA.2 (by omega)
          have hn97 : 0 < I89 82 8 := by rw [he91]; exact hz96
          have hx98 : sp_R K P V (3, a, dp, sk, ld, nm, cs) (.inr (sp_f P a 5)) := sp_R_1 (by
            show sp_item K P V a dp sk ld nm cs = _
            first
            | (exfalso; omega)
            | (unfold sp_item; (repeat (first | rw [if_pos (by omega)] | rw [if_neg (by omega)])); done))
          show yi_D zi_Ms d zi_m97 k (124, [(2, .inl 1), (0, .inr (.inr (some 82))), (1, .inl (dp : Int))], [], (I89, L, R, Y), 0, 0) _
          refine yi_D_run 1 (125, [(2, .inl 1), (0, .inr (.inr (some 82))), (1, .inl (dp : Int))], [.inr (.inr (some 82))], (I89, L, R, Y), 0, 0) (fun _ => rfl) ?_
          refine yi_D_gi (v := I89 82 8) rfl rfl rfl rfl (fun _ => ?_)
          have h99 : ¬ ((I89 82 8) ≤ 0) := by omega
          refine yi_D_if1 false rfl (yi_le_f h99) ?_
          refine yi_D_retv rfl ?_
          exact ⟨_, rfl, hF94, Or.inr ⟨_, hx98, hz96, he91⟩⟩
        · refine yi_D_if2 true rfl (yi_ne_t h88) ?_
          refine yi_D_run 1 (125, [(2, .inl 1), (0, .inr (.inr (some 82))), (1, .inl (dp : Int))], [.inr (.inr (some 82))], (I, L, R, Y), 0, 0) (fun _ => rfl) ?_
          refine yi_D_gi (v := 0) rfl rfl rfl hf (fun _ => ?_)
          refine yi_D_if1 true rfl (by decide) ?_
          refine yi_D_run 2 (135, [(2, .inl 1), (0, .inr (.inr (some 82))), (1, .inl (dp : Int))], [.inl 26, .inr (.inr (some 82))], (I, L, R, Y), 0, 0) (fun _ => rfl) ?_
          refine yi_D_callv rfl (q_hasWord_z (by omega) (by omega) hW hf hA) ?_
          rintro _ (⟨c100, I101, rfl, hGa102, hf103, hA104⟩ | ⟨c105, I106, rfl, hGa107, hf108, hA109⟩)
          · exfalso; omega
          · have hA109 : mt_A I106 te a := hA109
            have hW110 := mt_W_t hW (mt_G_F hGa107)
            have hF111 := (mt_G_F hGa107)
            have hG112 := hGa107
            show yi_D zi_Ms d zi_m97 k (138, [(2, .inl 1), (0, .inr (.inr (some 82))), (1, .inl (dp : Int))], [.inl 0], (I106, L, R, Y), 0, 0) _
            refine yi_D_if1 true rfl (by decide) ?_
            refine yi_D_run 2 (160, [(2, .inl 1), (0, .inr (.inr (some 82))), (1, .inl (dp : Int))], [.inl 40, .inr (.inr (some 82))], (I106, L, R, Y), 0, 0) (fun _ => rfl) ?_
            refine yi_D_callv rfl (q_hasSign_z (by omega) hW110 hf108 hA109) ?_
            rintro _ (⟨c113, I114, rfl, hGa115, hf116, hA117⟩ | ⟨c118, I119, rfl, hGa120, hf121, hA122⟩)
            · exfalso; omega
            · have hA122 : mt_A I119 te a := hA122
              have hW123 := mt_W_t hW110 (mt_G_F hGa120)
              have hF124 := mt_F_t hF111 (mt_G_F hGa120)
              have hG125 := mt_G_t hG112 hGa120
              show yi_D zi_Ms d zi_m97 k (163, [(2, .inl 1), (0, .inr (.inr (some 82))), (1, .inl (dp : Int))], [.inl 0], (I119, L, R, Y), 0, 0) _
              refine yi_D_if1 true rfl (by decide) ?_
              refine yi_D_run 3 (186, [(2, .inl 1), (0, .inr (.inr (some 82))), (1, .inl (dp : Int))], [.inr (.inr (some 82)), .inl 11, .inr (.inr (some 82))], (I119, L, R, Y), 0, 0) (fun _ => rfl) ?_
              refine yi_D_callv rfl (q_readClause hW123 hf121 hA122 (by omega) (by omega)) ?_
              rintro _ ⟨z127, I126, rfl, hGc128, (⟨a129, x130, hs131, hf132, hA133⟩ | ⟨f134, hs131, hz135, he136⟩)⟩
              · have hW137 := mt_W_t hW123 (mt_G_F hGc128)
                have hF138 := mt_F_t hF124 (mt_G_F hGc128)
                have hG139 := mt_G_t hG125 hGc128
                have hR140 : sp_R K P V (3, a, dp, sk, ld, nm, cs) (.inl (4, a129, dp, sk, ld, nm, cs ++ [(11, x130)])) := sp_R_1 (by
                  show sp_item K P V a dp sk ld nm cs = _
                  unfold sp_item
                  (repeat (first | rw [if_pos (by omega)] | rw [if_neg (by omega)]))
                  rw [hs131])
                have lt141 : a < a129 := sp_cl_lt hs131
                show yi_D zi_Ms d zi_m97 k (189, [(2, .inl 1), (0, .inr (.inr (some 82))), (1, .inl (dp : Int))], [.inl z127, .inl 11, .inr (.inr (some 82))], (I126, L, R, Y), 0, 0) _
                refine yi_D_callv rfl (q_emit hW137) ?_
                rintro _ ⟨I142, rfl, hE143⟩
                have hW144 := mt_W_t hW137 (mt_E_F hE143)
                have hF145 := mt_F_t hF138 (mt_E_F hE143)
                have hf146 : I142 82 8 = 0 := (hE143.1 82 8 (by omega)).trans hf132
                have hA147 : mt_A I142 te a129 := ⟨(hE143.1 82 7 (by omega)).trans hA133.1, hA133.2⟩
                show yi_D zi_Ms d zi_m97 k (192, [(2, .inl 1), (0, .inr (.inr (some 82))), (1, .inl (dp : Int))], [], (I142, L, R, Y), 0, 0) _
                refine yi_D_retv rfl ?_
                exact ⟨_, rfl, hF145, Or.inl ⟨_, _, hR140, by omega, hf146, hA147⟩⟩
              · have hW148 := mt_W_t hW123 (mt_G_F hGc128)
                have hF149 := mt_F_t hF124 (mt_G_F hGc128)
                have hG150 := mt_G_t hG125 hGc128
                have hn151 : 0 < I126 82 8 := by rw [he136]; exact hz135
                have hx152 : sp_R K P V (3, a, dp, sk, ld, nm, cs) (.inr f134) := sp_R_1 (by
                  show sp_item K P V a dp sk ld nm cs = _
                  unfold sp_item
                  (repeat (first | rw [if_pos (by omega)] | rw [if_neg (by omega)]))
                  rw [hs131])
                show yi_D zi_Ms d zi_m97 k (189, [(2, .inl 1), (0, .inr (.inr (some 82))), (1, .inl (dp : Int))], [.inl z127, .inl 11, .inr (.inr (some 82))], (I126, L, R, Y), 0, 0) _
                refine yi_D_callv rfl (q_emit hW148) ?_
                rintro _ ⟨I153, rfl, hE154⟩
                have hW155 := mt_W_t hW148 (mt_E_F hE154)
                have hF156 := mt_F_t hF149 (mt_E_F hE154)
                have hf157 : 0 < I153 82 8 := by rw [hE154.1 82 8 (by omega)]; exact hn151
                have he158 := (hE154.1 82 8 (by omega)).trans he136
                show yi_D zi_Ms d zi_m97 k (192, [(2, .inl 1), (0, .inr (.inr (some 82))), (1, .inl (dp : Int))], [], (I153, L, R, Y), 0, 0) _
                refine yi_D_retv rfl ?_
                exact ⟨_, rfl, hF156, Or.inr ⟨_, hx152, hz135, he158⟩⟩
    · show yi_D zi_Ms d zi_m97 k (21, [(0, .inr (.inr (some 82))), (1, .inl (dp : Int))], [.inl 0], (I, L, R, Y), 0, 0) _
      refine yi_D_if1 false rfl (by decide) ?_
      refine yi_D_run 2 (27, [(0, .inr (.inr (some 82))), (1, .inl (dp : Int))], [.inl 11, .inr (.inr (some 82))], (I, L, R, Y), 0, 0) (fun _ => rfl) ?_
      refine yi_D_callv rfl (q_isWord_z (by omega) (by omega) hW hf hA) ?_
      rintro _ (⟨c159, rfl⟩ | ⟨c159, rfl⟩)
      · show yi_D zi_Ms d zi_m97 k (30, [(0, .inr (.inr (some 82))), (1, .inl (dp : Int))], [.inl 1], (I, L, R, Y), 0, 0) _
        refine yi_D_if1 true rfl (by decide) ?_
        refine yi_D_run 4 (76, [(2, .inl 1), (0, .inr (.inr (some 82))), (1, .inl (dp : Int))], [.inl 1], (I, L, R, Y), 0, 0) (fun _ => rfl) ?_
        refine yi_D_if1 true rfl (by decide) ?_
        refine yi_D_run 1 (88, [(2, .inl 1), (0, .inr (.inr (some 82))), (1, .inl (dp : Int))], [.inr (.inr (some 82))], (I, L, R, Y), 0, 0) (fun _ => rfl) ?_
        refine yi_D_callv rfl (q_isName_z hW hf hA) ?_
        rintro _ (⟨c160, rfl⟩ | ⟨c160, rfl⟩)
        · exfalso; omega
        · show yi_D zi_Ms d zi_m97 k (91, [(2, .inl 1), (0, .inr (.inr (some 82))), (1, .inl (dp : Int))], [.inl 0], (I, L, R, Y), 0, 0) _
          refine yi_D_if1 true rfl (by decide) ?_
          refine yi_D_run 2 (116, [(2, .inl 1), (0, .inr (.inr (some 82))), (1, .inl (dp : Int))], [.inl 5, .inl (dp : Int)], (I, L, R, Y), 0, 0) (fun _ => rfl) ?_
          by_cases h161 : (dp : Int) = 5
          · refine yi_D_if2 false rfl (yi_ne_f h161) ?_
            refine yi_D_run 2 (121, [(2, .inl 1), (0, .inr (.inr (some 82))), (1, .inl (dp : Int))], [.inl 5, .inr (.inr (some 82))], (I, L, R, Y), 0, 0) (fun _ => rfl) ?_
            refine yi_D_callv rfl (q_wrong_z ⟨by omega, by omega⟩ hW hf hA) ?_
            rintro _ ⟨I162, rfl, hg163, he164⟩
            have hGw165 : mt_G I I162 := fun p k hp => hg163 p k (by omega)
            have hW166 := mt_W_t hW (mt_G_F hGw165)
            have hF167 := (mt_G_F hGw165)
            have hG168 := hGw165
            have hz169 : 0 < sp_f P a 5 := mt_f_ne hW hA.2 (by omega)
            have hn170 : 0 < I162 82 8 := by rw [he164]; exact hz169
            have hx171 : sp_R K P V (3, a, dp, sk, ld, nm, cs) (.inr (sp_f P a 5)) := sp_R_1 (by
              show sp_item K P V a dp sk ld nm cs = _
              first
              | (exfalso; omega)
              | (unfold sp_item; (repeat (first | rw [if_pos (by omega)] | rw [if_neg (by omega)])); done))
            show yi_D zi_Ms d zi_m97 k (124, [(2, .inl 1), (0, .inr (.inr (some 82))), (1, .inl (dp : Int))], [], (I162, L, R, Y), 0, 0) _
            refine yi_D_run 1 (125, [(2, .inl 1), (0, .inr (.inr (some 82))), (1, .inl (dp : Int))], [.inr (.inr (some 82))], (I162, L, R, Y), 0, 0) (fun _ => rfl) ?_
            refine yi_D_gi (v := I162 82 8) rfl rfl rfl rfl (fun _ => ?_)
            have h172 : ¬ ((I162 82 8) ≤ 0) := by omega
            refine yi_D_if1 false rfl (yi_le_f h172) ?_
            refine yi_D_retv rfl ?_
            exact ⟨_, rfl, hF167, Or.inr ⟨_, hx171, hz169, he164⟩⟩
          · refine yi_D_if2 true rfl (yi_ne_t h161) ?_
            refine yi_D_run 1 (125, [(2, .inl 1), (0, .inr (.inr (some 82))), (1, .inl (dp : Int))], [.inr (.inr (some 82))], (I, L, R, Y), 0, 0) (fun _ => rfl) ?_
            refine yi_D_gi (v := 0) rfl rfl rfl hf (fun _ => ?_)
            refine yi_D_if1 true rfl (by decide) ?_
            refine yi_D_run 2 (135, [(2, .inl 1), (0, .inr (.inr (some 82))), (1, .inl (dp : Int))], [.inl 26, .inr (.inr (some 82))], (I, L, R, Y), 0, 0) (fun _ => rfl) ?_
            refine yi_D_callv rfl (q_hasWord_z (by omega) (by omega) hW hf hA) ?_
            rintro _ (⟨c173, I174, rfl, hGa175, hf176, hA177⟩ | ⟨c178, I179, rfl, hGa180, hf181, hA182⟩)
            · exfalso; omega
            · have hA182 : mt_A I179 te a := hA182
              have hW183 := mt_W_t hW (mt_G_F hGa180)
              have hF184 := (mt_G_F hGa180)
              have hG185 := hGa180
              show yi_D zi_Ms d zi_m97 k (138, [(2, .inl 1), (0, .inr (.inr (some 82))), (1, .inl (dp : Int))], [.inl 0], (I179, L, R, Y), 0, 0) _
              refine yi_D_if1 true rfl (by decide) ?_
              refine yi_D_run 2 (160, [(2, .inl 1), (0, .inr (.inr (some 82))), (1, .inl (dp : Int))], [.inl 40, .inr (.inr (some 82))], (I179, L, R, Y), 0, 0) (fun _ => rfl) ?_
              refine yi_D_callv rfl (q_hasSign_z (by omega) hW183 hf181 hA182) ?_
              rintro _ (⟨c186, I187, rfl, hGa188, hf189, hA190⟩ | ⟨c191, I192, rfl, hGa193, hf194, hA195⟩)
              · exfalso; omega
              · have hA195 : mt_A I192 te a := hA195
                have hW196 := mt_W_t hW183 (mt_G_F hGa193)
                have hF197 := mt_F_t hF184 (mt_G_F hGa193)
                have hG198 := mt_G_t hG185 hGa193
                show yi_D zi_Ms d zi_m97 k (163, [(2, .inl 1), (0, .inr (.inr (some 82))), (1, .inl (dp : Int))], [.inl 0], (I192, L, R, Y), 0, 0) _
                refine yi_D_if1 true rfl (by decide) ?_
                refine yi_D_run 3 (186, [(2, .inl 1), (0, .inr (.inr (some 82))), (1, .inl (dp : Int))], [.inr (.inr (some 82)), .inl 11, .inr (.inr (some 82))], (I192, L, R, Y), 0, 0) (fun _ => rfl) ?_
                refine yi_D_callv rfl (q_readClause hW196 hf194 hA195 (by omega) (by omega)) ?_
                rintro _ ⟨z200, I199, rfl, hGc201, (⟨a202, x203, hs204, hf205, hA206⟩ | ⟨f207, hs204, hz208, he209⟩)⟩
                · have hW210 := mt_W_t hW196 (mt_G_F hGc201)
                  have hF211 := mt_F_t hF197 (mt_G_F hGc201)
                  have hG212 := mt_G_t hG198 hGc201
                  have hR213 : sp_R K P V (3, a, dp, sk, ld, nm, cs) (.inl (4, a202, dp, sk, ld, nm, cs ++ [(11, x203)])) := sp_R_1 (by
                    show sp_item K P V a dp sk ld nm cs = _
                    unfold sp_item
                    (repeat (first | rw [if_pos (by omega)] | rw [if_neg (by omega)]))
                    rw [hs204])
                  have lt214 : a < a202 := sp_cl_lt hs204
                  show yi_D zi_Ms d zi_m97 k (189, [(2, .inl 1), (0, .inr (.inr (some 82))), (1, .inl (dp : Int))], [.inl z200, .inl 11, .inr (.inr (some 82))], (I199, L, R, Y), 0, 0) _
                  refine yi_D_callv rfl (q_emit hW210) ?_
                  rintro _ ⟨I215, rfl, hE216⟩
                  have hW217 := mt_W_t hW210 (mt_E_F hE216)
                  have hF218 := mt_F_t hF211 (mt_E_F hE216)
                  have hf219 : I215 82 8 = 0 := (hE216.1 82 8 (by omega)).trans hf205
                  have hA220 : mt_A I215 te a202 := ⟨(hE216.1 82 7 (by omega)).trans hA206.1, hA206.2⟩
                  show yi_D zi_Ms d zi_m97 k (192, [(2, .inl 1), (0, .inr (.inr (some 82))), (1, .inl (dp : Int))], [], (I215, L, R, Y), 0, 0) _
                  refine yi_D_retv rfl ?_
                  exact ⟨_, rfl, hF218, Or.inl ⟨_, _, hR213, by omega, hf219, hA220⟩⟩
                · have hW221 := mt_W_t hW196 (mt_G_F hGc201)
                  have hF222 := mt_F_t hF197 (mt_G_F hGc201)
                  have hG223 := mt_G_t hG198 hGc201
                  have hn224 : 0 < I199 82 8 := by rw [he209]; exact hz208
                  have hx225 : sp_R K P V (3, a, dp, sk, ld, nm, cs) (.inr f207) := sp_R_1 (by
                    show sp_item K P V a dp sk ld nm cs = _
                    unfold sp_item
                    (repeat (first | rw [if_pos (by omega)] | rw [if_neg (by omega)]))
                    rw [hs204])
                  show yi_D zi_Ms d zi_m97 k (189, [(2, .inl 1), (0, .inr (.inr (some 82))), (1, .inl (dp : Int))], [.inl z200, .inl 11, .inr (.inr (some 82))], (I199, L, R, Y), 0, 0) _
                  refine yi_D_callv rfl (q_emit hW221) ?_
                  rintro _ ⟨I226, rfl, hE227⟩
                  have hW228 := mt_W_t hW221 (mt_E_F hE227)
                  have hF229 := mt_F_t hF222 (mt_E_F hE227)
                  have hf230 : 0 < I226 82 8 := by rw [hE227.1 82 8 (by omega)]; exact hn224
                  have he231 := (hE227.1 82 8 (by omega)).trans he209
                  show yi_D zi_Ms d zi_m97 k (192, [(2, .inl 1), (0, .inr (.inr (some 82))), (1, .inl (dp : Int))], [], (I226, L, R, Y), 0, 0) _
                  refine yi_D_retv rfl ?_
                  exact ⟨_, rfl, hF229, Or.inr ⟨_, hx225, hz208, he231⟩⟩
      · show yi_D zi_Ms d zi_m97 k (30, [(0, .inr (.inr (some 82))), (1, .inl (dp : Int))], [.inl 0], (I, L, R, Y), 0, 0) _
        refine yi_D_if1 false rfl (by decide) ?_
        refine yi_D_run 2 (36, [(0, .inr (.inr (some 82))), (1, .inl (dp : Int))], [.inl 12, .inr (.inr (some 82))], (I, L, R, Y), 0, 0) (fun _ => rfl) ?_
        refine yi_D_callv rfl (q_isWord_z (by omega) (by omega) hW hf hA) ?_
        rintro _ (⟨c232, rfl⟩ | ⟨c232, rfl⟩)
        · show yi_D zi_Ms d zi_m97 k (39, [(0, .inr (.inr (some 82))), (1, .inl (dp : Int))], [.inl 1], (I, L, R, Y), 0, 0) _
          refine yi_D_if1 true rfl (by decide) ?_
          refine yi_D_run 4 (76, [(2, .inl 1), (0, .inr (.inr (some 82))), (1, .inl (dp : Int))], [.inl 1], (I, L, R, Y), 0, 0) (fun _ => rfl) ?_
          refine yi_D_if1 true rfl (by decide) ?_
          refine yi_D_run 1 (88, [(2, .inl 1), (0, .inr (.inr (some 82))), (1, .inl (dp : Int))], [.inr (.inr (some 82))], (I, L, R, Y), 0, 0) (fun _ => rfl) ?_
          refine yi_D_callv rfl (q_isName_z hW hf hA) ?_
          rintro _ (⟨c233, rfl⟩ | ⟨c233, rfl⟩)
          · exfalso; omega
          · show yi_D zi_Ms d zi_m97 k (91, [(2, .inl 1), (0, .inr (.inr (some 82))), (1, .inl (dp : Int))], [.inl 0], (I, L, R, Y), 0, 0) _
            refine yi_D_if1 true rfl (by decide) ?_
            refine yi_D_run 2 (116, [(2, .inl 1), (0, .inr (.inr (some 82))), (1, .inl (dp : Int))], [.inl 5, .inl (dp : Int)], (I, L, R, Y), 0, 0) (fun _ => rfl) ?_
            by_cases h234 : (dp : Int) = 5
            · refine yi_D_if2 false rfl (yi_ne_f h234) ?_
              refine yi_D_run 2 (121, [(2, .inl 1), (0, .inr (.inr (some 82))), (1, .inl (dp : Int))], [.inl 5, .inr (.inr (some 82))], (I, L, R, Y), 0, 0) (fun _ => rfl) ?_
              refine yi_D_callv rfl (q_wrong_z ⟨by omega, by omega⟩ hW hf hA) ?_
              rintro _ ⟨I235, rfl, hg236, he237⟩
              have hGw238 : mt_G I I235 := fun p k hp => hg236 p k (by omega)
              have hW239 := mt_W_t hW (mt_G_F hGw238)
              have hF240 := (mt_G_F hGw238)
              have hG241 := hGw238
              have hz242 : 0 < sp_f P a 5 := mt_f_ne hW hA.2 (by omega)
              have hn243 : 0 < I235 82 8 := by rw [he237]; exact hz242
              have hx244 : sp_R K P V (3, a, dp, sk, ld, nm, cs) (.inr (sp_f P a 5)) := sp_R_1 (by
                show sp_item K P V a dp sk ld nm cs = _
                first
                | (exfalso; omega)
                | (unfold sp_item; (repeat (first | rw [if_pos (by omega)] | rw [if_neg (by omega)])); done))
              show yi_D zi_Ms d zi_m97 k (124, [(2, .inl 1), (0, .inr (.inr (some 82))), (1, .inl (dp : Int))], [], (I235, L, R, Y), 0, 0) _
              refine yi_D_run 1 (125, [(2, .inl 1), (0, .inr (.inr (some 82))), (1, .inl (dp : Int))], [.inr (.inr (some 82))], (I235, L, R, Y), 0, 0) (fun _ => rfl) ?_
              refine yi_D_gi (v := I235 82 8) rfl rfl rfl rfl (fun _ => ?_)
              have h245 : ¬ ((I235 82 8) ≤ 0) := by omega
              refine yi_D_if1 false rfl (yi_le_f h245) ?_
              refine yi_D_retv rfl ?_
              exact ⟨_, rfl, hF240, Or.inr ⟨_, hx244, hz242, he237⟩⟩
            · refine yi_D_if2 true rfl (yi_ne_t h234) ?_
              refine yi_D_run 1 (125, [(2, .inl 1), (0, .inr (.inr (some 82))), (1, .inl (dp : Int))], [.inr (.inr (some 82))], (I, L, R, Y), 0, 0) (fun _ => rfl) ?_
              refine yi_D_gi (v := 0) rfl rfl rfl hf (fun _ => ?_)
              refine yi_D_if1 true rfl (by decide) ?_
              refine yi_D_run 2 (135, [(2, .inl 1), (0, .inr (.inr (some 82))), (1, .inl (dp : Int))], [.inl 26, .inr (.inr (some 82))], (I, L, R, Y), 0, 0) (fun _ => rfl) ?_
              refine yi_D_callv rfl (q_hasWord_z (by omega) (by omega) hW hf hA) ?_
              rintro _ (⟨c246, I247, rfl, hGa248, hf249, hA250⟩ | ⟨c251, I252, rfl, hGa253, hf254, hA255⟩)
              · exfalso; omega
              · have hA255 : mt_A I252 te a := hA255
                have hW256 := mt_W_t hW (mt_G_F hGa253)
                have hF257 := (mt_G_F hGa253)
                have hG258 := hGa253
                show yi_D zi_Ms d zi_m97 k (138, [(2, .inl 1), (0, .inr (.inr (some 82))), (1, .inl (dp : Int))], [.inl 0], (I252, L, R, Y), 0, 0) _
                refine yi_D_if1 true rfl (by decide) ?_
                refine yi_D_run 2 (160, [(2, .inl 1), (0, .inr (.inr (some 82))), (1, .inl (dp : Int))], [.inl 40, .inr (.inr (some 82))], (I252, L, R, Y), 0, 0) (fun _ => rfl) ?_
                refine yi_D_callv rfl (q_hasSign_z (by omega) hW256 hf254 hA255) ?_
                rintro _ (⟨c259, I260, rfl, hGa261, hf262, hA263⟩ | ⟨c264, I265, rfl, hGa266, hf267, hA268⟩)
                · exfalso; omega
                · have hA268 : mt_A I265 te a := hA268
                  have hW269 := mt_W_t hW256 (mt_G_F hGa266)
                  have hF270 := mt_F_t hF257 (mt_G_F hGa266)
                  have hG271 := mt_G_t hG258 hGa266
                  show yi_D zi_Ms d zi_m97 k (163, [(2, .inl 1), (0, .inr (.inr (some 82))), (1, .inl (dp : Int))], [.inl 0], (I265, L, R, Y), 0, 0) _
                  refine yi_D_if1 true rfl (by decide) ?_
                  refine yi_D_run 3 (186, [(2, .inl 1), (0, .inr (.inr (some 82))), (1, .inl (dp : Int))], [.inr (.inr (some 82)), .inl 11, .inr (.inr (some 82))], (I265, L, R, Y), 0, 0) (fun _ => rfl) ?_
                  refine yi_D_callv rfl (q_readClause hW269 hf267 hA268 (by omega) (by omega)) ?_
                  rintro _ ⟨z273, I272, rfl, hGc274, (⟨a275, x276, hs277, hf278, hA279⟩ | ⟨f280, hs277, hz281, he282⟩)⟩
                  · have hW283 := mt_W_t hW269 (mt_G_F hGc274)
                    have hF284 := mt_F_t hF270 (mt_G_F hGc274)
                    have hG285 := mt_G_t hG271 hGc274
                    have hR286 : sp_R K P V (3, a, dp, sk, ld, nm, cs) (.inl (4, a275, dp, sk, ld, nm, cs ++ [(11, x276)])) := sp_R_1 (by
                      show sp_item K P V a dp sk ld nm cs = _
                      unfold sp_item
                      (repeat (first | rw [if_pos (by omega)] | rw [if_neg (by omega)]))
                      rw [hs277])
                    have lt287 : a < a275 := sp_cl_lt hs277
                    show yi_D zi_Ms d zi_m97 k (189, [(2, .inl 1), (0, .inr (.inr (some 82))), (1, .inl (dp : Int))], [.inl z273, .inl 11, .inr (.inr (some 82))], (I272, L, R, Y), 0, 0) _
                    refine yi_D_callv rfl (q_emit hW283) ?_
                    rintro _ ⟨I288, rfl, hE289⟩
                    have hW290 := mt_W_t hW283 (mt_E_F hE289)
                    have hF291 := mt_F_t hF284 (mt_E_F hE289)
                    have hf292 : I288 82 8 = 0 := (hE289.1 82 8 (by omega)).trans hf278
                    have hA293 : mt_A I288 te a275 := ⟨(hE289.1 82 7 (by omega)).trans hA279.1, hA279.2⟩
                    show yi_D zi_Ms d zi_m97 k (192, [(2, .inl 1), (0, .inr (.inr (some 82))), (1, .inl (dp : Int))], [], (I288, L, R, Y), 0, 0) _
                    refine yi_D_retv rfl ?_
                    exact ⟨_, rfl, hF291, Or.inl ⟨_, _, hR286, by omega, hf292, hA293⟩⟩
                  · have hW294 := mt_W_t hW269 (mt_G_F hGc274)
                    have hF295 := mt_F_t hF270 (mt_G_F hGc274)
                    have hG296 := mt_G_t hG271 hGc274
                    have hn297 : 0 < I272 82 8 := by rw [he282]; exact hz281
                    have hx298 : sp_R K P V (3, a, dp, sk, ld, nm, cs) (.inr f280) := sp_R_1 (by
                      show sp_item K P V a dp sk ld nm cs = _
                      unfold sp_item
                      (repeat (first | rw [if_pos (by omega)] | rw [if_neg (by omega)]))
                      rw [hs277])
                    show yi_D zi_Ms d zi_m97 k (189, [(2, .inl 1), (0, .inr (.inr (some 82))), (1, .inl (dp : Int))], [.inl z273, .inl 11, .inr (.inr (some 82))], (I272, L, R, Y), 0, 0) _
                    refine yi_D_callv rfl (q_emit hW294) ?_
                    rintro _ ⟨I299, rfl, hE300⟩
                    have hW301 := mt_W_t hW294 (mt_E_F hE300)
                    have hF302 := mt_F_t hF295 (mt_E_F hE300)
                    have hf303 : 0 < I299 82 8 := by rw [hE300.1 82 8 (by omega)]; exact hn297
                    have he304 := (hE300.1 82 8 (by omega)).trans he282
                    show yi_D zi_Ms d zi_m97 k (192, [(2, .inl 1), (0, .inr (.inr (some 82))), (1, .inl (dp : Int))], [], (I299, L, R, Y), 0, 0) _
                    refine yi_D_retv rfl ?_
                    exact ⟨_, rfl, hF302, Or.inr ⟨_, hx298, hz281, he304⟩⟩
        · show yi_D zi_Ms d zi_m97 k (39, [(0, .inr (.inr (some 82))), (1, .inl (dp : Int))], [.inl 0], (I, L, R, Y), 0, 0) _
          refine yi_D_if1 false rfl (by decide) ?_
          refine yi_D_run 2 (45, [(0, .inr (.inr (some 82))), (1, .inl (dp : Int))], [.inl 13, .inr (.inr (some 82))], (I, L, R, Y), 0, 0) (fun _ => rfl) ?_
          refine yi_D_callv rfl (q_isWord_z (by omega) (by omega) hW hf hA) ?_
          rintro _ (⟨c305, rfl⟩ | ⟨c305, rfl⟩)
          · show yi_D zi_Ms d zi_m97 k (48, [(0, .inr (.inr (some 82))), (1, .inl (dp : Int))], [.inl 1], (I, L, R, Y), 0, 0) _
            refine yi_D_if1 true rfl (by decide) ?_
            refine yi_D_run 4 (76, [(2, .inl 1), (0, .inr (.inr (some 82))), (1, .inl (dp : Int))], [.inl 1], (I, L, R, Y), 0, 0) (fun _ => rfl) ?_
            refine yi_D_if1 true rfl (by decide) ?_
            refine yi_D_run 1 (88, [(2, .inl 1), (0, .inr (.inr (some 82))), (1, .inl (dp : Int))], [.inr (.inr (some 82))], (I, L, R, Y), 0, 0) (fun _ => rfl) ?_
            refine yi_D_callv rfl (q_isName_z hW hf hA) ?_
            rintro _ (⟨c306, rfl⟩ | ⟨c306, rfl⟩)
            · exfalso; omega
            · show yi_D zi_Ms d zi_m97 k (91, [(2, .inl 1), (0, .inr (.inr (some 82))), (1, .inl (dp : Int))], [.inl 0], (I, L, R, Y), 0, 0) _
              refine yi_D_if1 true rfl (by decide) ?_
              refine yi_D_run 2 (116, [(2, .inl 1), (0, .inr (.inr (some 82))), (1, .inl (dp : Int))], [.inl 5, .inl (dp : Int)], (I, L, R, Y), 0, 0) (fun _ => rfl) ?_
              by_cases h307 : (dp : Int) = 5
              · refine yi_D_if2 false rfl (yi_ne_f h307) ?_
                refine yi_D_run 2 (121, [(2, .inl 1), (0, .inr (.inr (some 82))), (1, .inl (dp : Int))], [.inl 5, .inr (.inr (some 82))], (I, L, R, Y), 0, 0) (fun _ => rfl) ?_
                refine yi_D_callv rfl (q_wrong_z ⟨by omega, by omega⟩ hW hf hA) ?_
                rintro _ ⟨I308, rfl, hg309, he310⟩
                have hGw311 : mt_G I I308 := fun p k hp => hg309 p k (by omega)
                have hW312 := mt_W_t hW (mt_G_F hGw311)
                have hF313 := (mt_G_F hGw311)
                have hG314 := hGw311
                have hz315 : 0 < sp_f P a 5 := mt_f_ne hW hA.2 (by omega)
                have hn316 : 0 < I308 82 8 := by rw [he310]; exact hz315
                have hx317 : sp_R K P V (3, a, dp, sk, ld, nm, cs) (.inr (sp_f P a 5)) := sp_R_1 (by
                  show sp_item K P V a dp sk ld nm cs = _
                  first
                  | (exfalso; omega)
                  | (unfold sp_item; (repeat (first | rw [if_pos (by omega)] | rw [if_neg (by omega)])); done))
                show yi_D zi_Ms d zi_m97 k (124, [(2, .inl 1), (0, .inr (.inr (some 82))), (1, .inl (dp : Int))], [], (I308, L, R, Y), 0, 0) _
                refine yi_D_run 1 (125, [(2, .inl 1), (0, .inr (.inr (some 82))), (1, .inl (dp : Int))], [.inr (.inr (some 82))], (I308, L, R, Y), 0, 0) (fun _ => rfl) ?_
                refine yi_D_gi (v := I308 82 8) rfl rfl rfl rfl (fun _ => ?_)
                have h318 : ¬ ((I308 82 8) ≤ 0) := by omega
                refine yi_D_if1 false rfl (yi_le_f h318) ?_
                refine yi_D_retv rfl ?_
                exact ⟨_, rfl, hF313, Or.inr ⟨_, hx317, hz315, he310⟩⟩
              · refine yi_D_if2 true rfl (yi_ne_t h307) ?_
                refine yi_D_run 1 (125, [(2, .inl 1), (0, .inr (.inr (some 82))), (1, .inl (dp : Int))], [.inr (.inr (some 82))], (I, L, R, Y), 0, 0) (fun _ => rfl) ?_
                refine yi_D_gi (v := 0) rfl rfl rfl hf (fun _ => ?_)
                refine yi_D_if1 true rfl (by decide) ?_
                refine yi_D_run 2 (135, [(2, .inl 1), (0, .inr (.inr (some 82))), (1, .inl (dp : Int))], [.inl 26, .inr (.inr (some 82))], (I, L, R, Y), 0, 0) (fun _ => rfl) ?_
                refine yi_D_callv rfl (q_hasWord_z (by omega) (by omega) hW hf hA) ?_
                rintro _ (⟨c319, I320, rfl, hGa321, hf322, hA323⟩ | ⟨c324, I325, rfl, hGa326, hf327, hA328⟩)
                · exfalso; omega
                · have hA328 : mt_A I325 te a := hA328
                  have hW329 := mt_W_t hW (mt_G_F hGa326)
                  have hF330 := (mt_G_F hGa326)
                  have hG331 := hGa326
                  show yi_D zi_Ms d zi_m97 k (138, [(2, .inl 1), (0, .inr (.inr (some 82))), (1, .inl (dp : Int))], [.inl 0], (I325, L, R, Y), 0, 0) _
                  refine yi_D_if1 true rfl (by decide) ?_
                  refine yi_D_run 2 (160, [(2, .inl 1), (0, .inr (.inr (some 82))), (1, .inl (dp : Int))], [.inl 40, .inr (.inr (some 82))], (I325, L, R, Y), 0, 0) (fun _ => rfl) ?_
                  refine yi_D_callv rfl (q_hasSign_z (by omega) hW329 hf327 hA328) ?_
                  rintro _ (⟨c332, I333, rfl, hGa334, hf335, hA336⟩ | ⟨c337, I338, rfl, hGa339, hf340, hA341⟩)
                  · exfalso; omega
                  · have hA341 : mt_A I338 te a := hA341
                    have hW342 := mt_W_t hW329 (mt_G_F hGa339)
                    have hF343 := mt_F_t hF330 (mt_G_F hGa339)
                    have hG344 := mt_G_t hG331 hGa339
                    show yi_D zi_Ms d zi_m97 k (163, [(2, .inl 1), (0, .inr (.inr (some 82))), (1, .inl (dp : Int))], [.inl 0], (I338, L, R, Y), 0, 0) _
                    refine yi_D_if1 true rfl (by decide) ?_
                    refine yi_D_run 3 (186, [(2, .inl 1), (0, .inr (.inr (some 82))), (1, .inl (dp : Int))], [.inr (.inr (some 82)), .inl 11, .inr (.inr (some 82))], (I338, L, R, Y), 0, 0) (fun _ => rfl) ?_
                    refine yi_D_callv rfl (q_readClause hW342 hf340 hA341 (by omega) (by omega)) ?_
                    rintro _ ⟨z346, I345, rfl, hGc347, (⟨a348, x349, hs350, hf351, hA352⟩ | ⟨f353, hs350, hz354, he355⟩)⟩
                    · have hW356 := mt_W_t hW342 (mt_G_F hGc347)
                      have hF357 := mt_F_t hF343 (mt_G_F hGc347)
                      have hG358 := mt_G_t hG344 hGc347
                      have hR359 : sp_R K P V (3, a, dp, sk, ld, nm, cs) (.inl (4, a348, dp, sk, ld, nm, cs ++ [(11, x349)])) := sp_R_1 (by
                        show sp_item K P V a dp sk ld nm cs = _
                        unfold sp_item
                        (repeat (first | rw [if_pos (by omega)] | rw [if_neg (by omega)]))
                        rw [hs350])
                      have lt360 : a < a348 := sp_cl_lt hs350
                      show yi_D zi_Ms d zi_m97 k (189, [(2, .inl 1), (0, .inr (.inr (some 82))), (1, .inl (dp : Int))], [.inl z346, .inl 11, .inr (.inr (some 82))], (I345, L, R, Y), 0, 0) _
                      refine yi_D_callv rfl (q_emit hW356) ?_
                      rintro _ ⟨I361, rfl, hE362⟩
                      have hW363 := mt_W_t hW356 (mt_E_F hE362)
                      have hF364 := mt_F_t hF357 (mt_E_F hE362)
                      have hf365 : I361 82 8 = 0 := (hE362.1 82 8 (by omega)).trans hf351
                      have hA366 : mt_A I361 te a348 := ⟨(hE362.1 82 7 (by omega)).trans hA352.1, hA352.2⟩
                      show yi_D zi_Ms d zi_m97 k (192, [(2, .inl 1), (0, .inr (.inr (some 82))), (1, .inl (dp : Int))], [], (I361, L, R, Y), 0, 0) _
                      refine yi_D_retv rfl ?_
                      exact ⟨_, rfl, hF364, Or.inl ⟨_, _, hR359, by omega, hf365, hA366⟩⟩
                    · have hW367 := mt_W_t hW342 (mt_G_F hGc347)
                      have hF368 := mt_F_t hF343 (mt_G_F hGc347)
                      have hG369 := mt_G_t hG344 hGc347
                      have hn370 : 0 < I345 82 8 := by rw [he355]; exact hz354
                      have hx371 : sp_R K P V (3, a, dp, sk, ld, nm, cs) (.inr f353) := sp_R_1 (by
                        show sp_item K P V a dp sk ld nm cs = _
                        unfold sp_item
                        (repeat (first | rw [if_pos (by omega)] | rw [if_neg (by omega)]))
                        rw [hs350])
                      show yi_D zi_Ms d zi_m97 k (189, [(2, .inl 1), (0, .inr (.inr (some 82))), (1, .inl (dp : Int))], [.inl z346, .inl 11, .inr (.inr (some 82))], (I345, L, R, Y), 0, 0) _
                      refine yi_D_callv rfl (q_emit hW367) ?_
                      rintro _ ⟨I372, rfl, hE373⟩
                      have hW374 := mt_W_t hW367 (mt_E_F hE373)
                      have hF375 := mt_F_t hF368 (mt_E_F hE373)
                      have hf376 : 0 < I372 82 8 := by rw [hE373.1 82 8 (by omega)]; exact hn370
                      have he377 := (hE373.1 82 8 (by omega)).trans he355
                      show yi_D zi_Ms d zi_m97 k (192, [(2, .inl 1), (0, .inr (.inr (some 82))), (1, .inl (dp : Int))], [], (I372, L, R, Y), 0, 0) _
                      refine yi_D_retv rfl ?_
                      exact ⟨_, rfl, hF375, Or.inr ⟨_, hx371, hz354, he377⟩⟩
          · show yi_D zi_Ms d zi_m97 k (48, [(0, .inr (.inr (some 82))), (1, .inl (dp : Int))], [.inl 0], (I, L, R, Y), 0, 0) _
            refine yi_D_if1 false rfl (by decide) ?_
            refine yi_D_run 2 (54, [(0, .inr (.inr (some 82))), (1, .inl (dp : Int))], [.inl 26, .inr (.inr (some 82))], (I, L, R, Y), 0, 0) (fun _ => rfl) ?_
            refine yi_D_callv rfl (q_isWord_z (by omega) (by omega) hW hf hA) ?_
            rintro _ (⟨c378, rfl⟩ | ⟨c378, rfl⟩)
            · show yi_D zi_Ms d zi_m97 k (57, [(0, .inr (.inr (some 82))), (1, .inl (dp : Int))], [.inl 1], (I, L, R, Y), 0, 0) _
              refine yi_D_if1 true rfl (by decide) ?_
              refine yi_D_run 4 (76, [(2, .inl 1), (0, .inr (.inr (some 82))), (1, .inl (dp : Int))], [.inl 1], (I, L, R, Y), 0, 0) (fun _ => rfl) ?_
              refine yi_D_if1 true rfl (by decide) ?_
              refine yi_D_run 1 (88, [(2, .inl 1), (0, .inr (.inr (some 82))), (1, .inl (dp : Int))], [.inr (.inr (some 82))], (I, L, R, Y), 0, 0) (fun _ => rfl) ?_
              refine yi_D_callv rfl (q_isName_z hW hf hA) ?_
              rintro _ (⟨c379, rfl⟩ | ⟨c379, rfl⟩)
              · exfalso; omega
              · show yi_D zi_Ms d zi_m97 k (91, [(2, .inl 1), (0, .inr (.inr (some 82))), (1, .inl (dp : Int))], [.inl 0], (I, L, R, Y), 0, 0) _
                refine yi_D_if1 true rfl (by decide) ?_
                refine yi_D_run 2 (116, [(2, .inl 1), (0, .inr (.inr (some 82))), (1, .inl (dp : Int))], [.inl 5, .inl (dp : Int)], (I, L, R, Y), 0, 0) (fun _ => rfl) ?_
                by_cases h380 : (dp : Int) = 5
                · refine yi_D_if2 false rfl (yi_ne_f h380) ?_
                  refine yi_D_run 2 (121, [(2, .inl 1), (0, .inr (.inr (some 82))), (1, .inl (dp : Int))], [.inl 5, .inr (.inr (some 82))], (I, L, R, Y), 0, 0) (fun _ => rfl) ?_
                  refine yi_D_callv rfl (q_wrong_z ⟨by omega, by omega⟩ hW hf hA) ?_
                  rintro _ ⟨I381, rfl, hg382, he383⟩
                  have hGw384 : mt_G I I381 := fun p k hp => hg382 p k (by omega)
                  have hW385 := mt_W_t hW (mt_G_F hGw384)
                  have hF386 := (mt_G_F hGw384)
                  have hG387 := hGw384
                  have hz388 : 0 < sp_f P a 5 := mt_f_ne hW hA.2 (by omega)
                  have hn389 : 0 < I381 82 8 := by rw [he383]; exact hz388
                  have hx390 : sp_R K P V (3, a, dp, sk, ld, nm, cs) (.inr (sp_f P a 5)) := sp_R_1 (by
                    show sp_item K P V a dp sk ld nm cs = _
                    first
                    | (exfalso; omega)
                    | (unfold sp_item; (repeat (first | rw [if_pos (by omega)] | rw [if_neg (by omega)])); done))
                  show yi_D zi_Ms d zi_m97 k (124, [(2, .inl 1), (0, .inr (.inr (some 82))), (1, .inl (dp : Int))], [], (I381, L, R, Y), 0, 0) _
                  refine yi_D_run 1 (125, [(2, .inl 1), (0, .inr (.inr (some 82))), (1, .inl (dp : Int))], [.inr (.inr (some 82))], (I381, L, R, Y), 0, 0) (fun _ => rfl) ?_
                  refine yi_D_gi (v := I381 82 8) rfl rfl rfl rfl (fun _ => ?_)
                  have h391 : ¬ ((I381 82 8) ≤ 0) := by omega
                  refine yi_D_if1 false rfl (yi_le_f h391) ?_
                  refine yi_D_retv rfl ?_
                  exact ⟨_, rfl, hF386, Or.inr ⟨_, hx390, hz388, he383⟩⟩
                · refine yi_D_if2 true rfl (yi_ne_t h380) ?_
                  refine yi_D_run 1 (125, [(2, .inl 1), (0, .inr (.inr (some 82))), (1, .inl (dp : Int))], [.inr (.inr (some 82))], (I, L, R, Y), 0, 0) (fun _ => rfl) ?_
                  refine yi_D_gi (v := 0) rfl rfl rfl hf (fun _ => ?_)
                  refine yi_D_if1 true rfl (by decide) ?_
                  refine yi_D_run 2 (135, [(2, .inl 1), (0, .inr (.inr (some 82))), (1, .inl (dp : Int))], [.inl 26, .inr (.inr (some 82))], (I, L, R, Y), 0, 0) (fun _ => rfl) ?_
                  refine yi_D_callv rfl (q_hasWord_z (by omega) (by omega) hW hf hA) ?_
                  rintro _ (⟨c392, I393, rfl, hGa394, hf395, hA396⟩ | ⟨c397, I398, rfl, hGa399, hf400, hA401⟩)
                  · have hA396 : mt_A I393 te (a + 1) := hA396
                    have hW402 := mt_W_t hW (mt_G_F hGa394)
                    have hF403 := (mt_G_F hGa394)
                    have hG404 := hGa394
                    show yi_D zi_Ms d zi_m97 k (138, [(2, .inl 1), (0, .inr (.inr (some 82))), (1, .inl (dp : Int))], [.inl 1], (I393, L, R, Y), 0, 0) _
                    refine yi_D_if1 false rfl (by decide) ?_
                    refine yi_D_run 3 (144, [(2, .inl 1), (0, .inr (.inr (some 82))), (1, .inl (dp : Int))], [.inl 1, .inl (dp : Int), .inr (.inr (some 82))], (I393, L, R, Y), 0, 0) (fun _ => rfl) ?_
                    refine yi_D_iadd rfl ((dp : Int) + 1) (yi_wn (by omega) (by omega)) ?_
                    have hst405 : sp_R K P V (3, a, dp, sk, ld, nm, cs) (.inl (3, a + 1, dp + 1, 0 :: sk, ld, nm, cs)) := sp_R_1 (by
                      show sp_item K P V a dp sk ld nm cs = _
                      first
                      | (exfalso; omega)
                      | (unfold sp_item; (repeat (first | rw [if_pos (by omega)] | rw [if_neg (by omega)])); done))
                    refine yi_D_callv rfl (hRI (dp + 1) (0 :: sk) cs hW402 hf395 hA396 (by omega)) ?_
                    rintro _ ⟨I406, rfl, hFr407, (⟨a408, cs409, hR410, lt411, hf412, hA413⟩ | ⟨f414, hR415, hz416, he417⟩)⟩
                    · have hW418 := mt_W_t hW402 hFr407
                      have hF419 := mt_F_t hF403 hFr407
                      have hR420 : sp_R K P V (3, a, dp, sk, ld, nm, cs) (.inl (4, a408, dp, sk, ld, nm, cs409 ++ [(3, 0)])) := sp_R_s (sp_R_t hst405 hR410) rfl
                      show yi_D zi_Ms d zi_m97 k (148, [(2, .inl 1), (0, .inr (.inr (some 82))), (1, .inl (dp : Int))], [], (I406, L, R, Y), 0, 0) _
                      refine yi_D_run 3 (151, [(2, .inl 1), (0, .inr (.inr (some 82))), (1, .inl (dp : Int))], [.inl 0, .inl 3, .inr (.inr (some 82))], (I406, L, R, Y), 0, 0) (fun _ => rfl) ?_
                      refine yi_D_callv rfl (q_emit hW418) ?_
                      rintro _ ⟨I421, rfl, hE422⟩
                      have hW423 := mt_W_t hW418 (mt_E_F hE422)
                      have hF424 := mt_F_t hF419 (mt_E_F hE422)
                      have hf425 : I421 82 8 = 0 := (hE422.1 82 8 (by omega)).trans hf412
                      have hA426 : mt_A I421 te a408 := ⟨(hE422.1 82 7 (by omega)).trans hA413.1, hA413.2⟩
                      show yi_D zi_Ms d zi_m97 k (154, [(2, .inl 1), (0, .inr (.inr (some 82))), (1, .inl (dp : Int))], [], (I421, L, R, Y), 0, 0) _
                      refine yi_D_run 1 (192, [(2, .inl 1), (0, .inr (.inr (some 82))), (1, .inl (dp : Int))], [], (I421, L, R, Y), 0, 0) (fun _ => rfl) ?_
                      refine yi_D_retv rfl ?_
                      exact ⟨_, rfl, hF424, Or.inl ⟨_, _, hR420, by omega, hf425, hA426⟩⟩
                    · have hW427 := mt_W_t hW402 hFr407
                      have hF428 := mt_F_t hF403 hFr407
                      have hn429 : 0 < I406 82 8 := by rw [he417]; exact hz416
                      have hx430 : sp_R K P V (3, a, dp, sk, ld, nm, cs) (.inr f414) := sp_R_t hst405 hR415
                      show yi_D zi_Ms d zi_m97 k (148, [(2, .inl 1), (0, .inr (.inr (some 82))), (1, .inl (dp : Int))], [], (I406, L, R, Y), 0, 0) _
                      refine yi_D_run 3 (151, [(2, .inl 1), (0, .inr (.inr (some 82))), (1, .inl (dp : Int))], [.inl 0, .inl 3, .inr (.inr (some 82))], (I406, L, R, Y), 0, 0) (fun _ => rfl) ?_
                      refine yi_D_callv rfl (q_emit hW427) ?_
                      rintro _ ⟨I431, rfl, hE432⟩
                      have hW433 := mt_W_t hW427 (mt_E_F hE432)
                      have hF434 := mt_F_t hF428 (mt_E_F hE432)
                      have hf435 : 0 < I431 82 8 := by rw [hE432.1 82 8 (by omega)]; exact hn429
                      have he436 := (hE432.1 82 8 (by omega)).trans he417
                      show yi_D zi_Ms d zi_m97 k (154, [(2, .inl 1), (0, .inr (.inr (some 82))), (1, .inl (dp : Int))], [], (I431, L, R, Y), 0, 0) _
                      refine yi_D_run 1 (192, [(2, .inl 1), (0, .inr (.inr (some 82))), (1, .inl (dp : Int))], [], (I431, L, R, Y), 0, 0) (fun _ => rfl) ?_
                      refine yi_D_retv rfl ?_
                      exact ⟨_, rfl, hF434, Or.inr ⟨_, hx430, hz416, he436⟩⟩
                  · exfalso; omega
            · show yi_D zi_Ms d zi_m97 k (57, [(0, .inr (.inr (some 82))), (1, .inl (dp : Int))], [.inl 0], (I, L, R, Y), 0, 0) _
              refine yi_D_if1 false rfl (by decide) ?_
              refine yi_D_run 2 (63, [(0, .inr (.inr (some 82))), (1, .inl (dp : Int))], [.inl 40, .inr (.inr (some 82))], (I, L, R, Y), 0, 0) (fun _ => rfl) ?_
              refine yi_D_callv rfl (q_isSign_z (by omega) hW hf hA) ?_
              rintro _ (⟨c437, rfl⟩ | ⟨c437, rfl⟩)
              · show yi_D zi_Ms d zi_m97 k (66, [(0, .inr (.inr (some 82))), (1, .inl (dp : Int))], [.inl 1], (I, L, R, Y), 0, 0) _
                refine yi_D_if1 false rfl (by decide) ?_
                refine yi_D_run 4 (76, [(2, .inl 1), (0, .inr (.inr (some 82))), (1, .inl (dp : Int))], [.inl 1], (I, L, R, Y), 0, 0) (fun _ => rfl) ?_
                refine yi_D_if1 true rfl (by decide) ?_
                refine yi_D_run 1 (88, [(2, .inl 1), (0, .inr (.inr (some 82))), (1, .inl (dp : Int))], [.inr (.inr (some 82))], (I, L, R, Y), 0, 0) (fun _ => rfl) ?_
                refine yi_D_callv rfl (q_isName_z hW hf hA) ?_
                rintro _ (⟨c438, rfl⟩ | ⟨c438, rfl⟩)
                · exfalso; omega
                · show yi_D zi_Ms d zi_m97 k (91, [(2, .inl 1), (0, .inr (.inr (some 82))), (1, .inl (dp : Int))], [.inl 0], (I, L, R, Y), 0, 0) _
                  refine yi_D_if1 true rfl (by decide) ?_
                  refine yi_D_run 2 (116, [(2, .inl 1), (0, .inr (.inr (some 82))), (1, .inl (dp : Int))], [.inl 5, .inl (dp : Int)], (I, L, R, Y), 0, 0) (fun _ => rfl) ?_
                  by_cases h439 : (dp : Int) = 5
                  · refine yi_D_if2 false rfl (yi_ne_f h439) ?_
                    refine yi_D_run 2 (121, [(2, .inl 1), (0, .inr (.inr (some 82))), (1, .inl (dp : Int))], [.inl 5, .inr (.inr (some 82))], (I, L, R, Y), 0, 0) (fun _ => rfl) ?_
                    refine yi_D_callv rfl (q_wrong_z ⟨by omega, by omega⟩ hW hf hA) ?_
                    rintro _ ⟨I440, rfl, hg441, he442⟩
                    have hGw443 : mt_G I I440 := fun p k hp => hg441 p k (by omega)
                    have hW444 := mt_W_t hW (mt_G_F hGw443)
                    have hF445 := (mt_G_F hGw443)
                    have hG446 := hGw443
                    have hz447 : 0 < sp_f P a 5 := mt_f_ne hW hA.2 (by omega)
                    have hn448 : 0 < I440 82 8 := by rw [he442]; exact hz447
                    have hx449 : sp_R K P V (3, a, dp, sk, ld, nm, cs) (.inr (sp_f P a 5)) := sp_R_1 (by
                      show sp_item K P V a dp sk ld nm cs = _
                      first
                      | (exfalso; omega)
                      | (unfold sp_item; (repeat (first | rw [if_pos (by omega)] | rw [if_neg (by omega)])); done))
                    show yi_D zi_Ms d zi_m97 k (124, [(2, .inl 1), (0, .inr (.inr (some 82))), (1, .inl (dp : Int))], [], (I440, L, R, Y), 0, 0) _
                    refine yi_D_run 1 (125, [(2, .inl 1), (0, .inr (.inr (some 82))), (1, .inl (dp : Int))], [.inr (.inr (some 82))], (I440, L, R, Y), 0, 0) (fun _ => rfl) ?_
                    refine yi_D_gi (v := I440 82 8) rfl rfl rfl rfl (fun _ => ?_)
                    have h450 : ¬ ((I440 82 8) ≤ 0) := by omega
                    refine yi_D_if1 false rfl (yi_le_f h450) ?_
                    refine yi_D_retv rfl ?_
                    exact ⟨_, rfl, hF445, Or.inr ⟨_, hx449, hz447, he442⟩⟩
                  · refine yi_D_if2 true rfl (yi_ne_t h439) ?_
                    refine yi_D_run 1 (125, [(2, .inl 1), (0, .inr (.inr (some 82))), (1, .inl (dp : Int))], [.inr (.inr (some 82))], (I, L, R, Y), 0, 0) (fun _ => rfl) ?_
                    refine yi_D_gi (v := 0) rfl rfl rfl hf (fun _ => ?_)
                    refine yi_D_if1 true rfl (by decide) ?_
                    refine yi_D_run 2 (135, [(2, .inl 1), (0, .inr (.inr (some 82))), (1, .inl (dp : Int))], [.inl 26, .inr (.inr (some 82))], (I, L, R, Y), 0, 0) (fun _ => rfl) ?_
                    refine yi_D_callv rfl (q_hasWord_z (by omega) (by omega) hW hf hA) ?_
                    rintro _ (⟨c451, I452, rfl, hGa453, hf454, hA455⟩ | ⟨c456, I457, rfl, hGa458, hf459, hA460⟩)
                    · exfalso; omega
                    · have hA460 : mt_A I457 te a := hA460
                      have hW461 := mt_W_t hW (mt_G_F hGa458)
                      have hF462 := (mt_G_F hGa458)
                      have hG463 := hGa458
                      show yi_D zi_Ms d zi_m97 k (138, [(2, .inl 1), (0, .inr (.inr (some 82))), (1, .inl (dp : Int))], [.inl 0], (I457, L, R, Y), 0, 0) _
                      refine yi_D_if1 true rfl (by decide) ?_
                      refine yi_D_run 2 (160, [(2, .inl 1), (0, .inr (.inr (some 82))), (1, .inl (dp : Int))], [.inl 40, .inr (.inr (some 82))], (I457, L, R, Y), 0, 0) (fun _ => rfl) ?_
                      refine yi_D_callv rfl (q_hasSign_z (by omega) hW461 hf459 hA460) ?_
                      rintro _ (⟨c464, I465, rfl, hGa466, hf467, hA468⟩ | ⟨c469, I470, rfl, hGa471, hf472, hA473⟩)
                      · have hA468 : mt_A I465 te (a + 1) := hA468
                        have hW474 := mt_W_t hW461 (mt_G_F hGa466)
                        have hF475 := mt_F_t hF462 (mt_G_F hGa466)
                        have hG476 := mt_G_t hG463 hGa466
                        show yi_D zi_Ms d zi_m97 k (163, [(2, .inl 1), (0, .inr (.inr (some 82))), (1, .inl (dp : Int))], [.inl 1], (I465, L, R, Y), 0, 0) _
                        refine yi_D_if1 false rfl (by decide) ?_
                        refine yi_D_run 3 (169, [(2, .inl 1), (0, .inr (.inr (some 82))), (1, .inl (dp : Int))], [.inl 1, .inl (dp : Int), .inr (.inr (some 82))], (I465, L, R, Y), 0, 0) (fun _ => rfl) ?_
                        refine yi_D_iadd rfl ((dp : Int) + 1) (yi_wn (by omega) (by omega)) ?_
                        have hst477 : sp_R K P V (3, a, dp, sk, ld, nm, cs) (.inl (3, a + 1, dp + 1, 10 :: 1 :: sk, ld, nm, cs)) := sp_R_1 (by
                          show sp_item K P V a dp sk ld nm cs = _
                          first
                          | (exfalso; omega)
                          | (unfold sp_item; (repeat (first | rw [if_pos (by omega)] | rw [if_neg (by omega)])); done))
                        refine yi_D_callv rfl (hRF (dp + 1) (1 :: sk) cs hW474 hf467 hA468 (by omega)) ?_
                        rintro _ ⟨I478, rfl, hFr479, (⟨a480, cs481, hR482, lt483, hf484, hA485⟩ | ⟨f486, hR487, hz488, he489⟩)⟩
                        · have hW490 := mt_W_t hW474 hFr479
                          have hF491 := mt_F_t hF475 hFr479
                          have hR492 := sp_R_t hst477 hR482
                          show yi_D zi_Ms d zi_m97 k (173, [(2, .inl 1), (0, .inr (.inr (some 82))), (1, .inl (dp : Int))], [], (I478, L, R, Y), 0, 0) _
                          refine yi_D_run 2 (176, [(2, .inl 1), (0, .inr (.inr (some 82))), (1, .inl (dp : Int))], [.inl 41, .inr (.inr (some 82))], (I478, L, R, Y), 0, 0) (fun _ => rfl) ?_
                          refine yi_D_callv rfl (q_takeSign_z (by omega) hW490 hf484 hA485) ?_
                          rintro _ (⟨c493, I494, rfl, hGa495, hf496, hA497⟩ | ⟨c498, I499, rfl, hGa500, he501⟩)
                          · have hA497 : mt_A I494 te (a480 + 1) := hA497
                            have hW502 := mt_W_t hW490 (mt_G_F hGa495)
                            have hF503 := mt_F_t hF491 (mt_G_F hGa495)
                            have hR504 : sp_R K P V (3, a, dp, sk, ld, nm, cs) (.inl (4, a480 + 1, dp, sk, ld, nm, cs481)) := sp_R_s hR492 (by
                              show (if K _ = 41 then _ else _) = _
                              rw [if_pos (by omega)]
                              rfl)
                            show yi_D zi_Ms d zi_m97 k (179, [(2, .inl 1), (0, .inr (.inr (some 82))), (1, .inl (dp : Int))], [], (I494, L, R, Y), 0, 0) _
                            refine yi_D_run 1 (192, [(2, .inl 1), (0, .inr (.inr (some 82))), (1, .inl (dp : Int))], [], (I494, L, R, Y), 0, 0) (fun _ => rfl) ?_
                            refine yi_D_retv rfl ?_
                            exact ⟨_, rfl, hF503, Or.inl ⟨_, _, hR504, by omega, hf496, hA497⟩⟩
                          · have hW505 := mt_W_t hW490 (mt_G_F hGa500)
                            have hF506 := mt_F_t hF491 (mt_G_F hGa500)
                            have hz507 : 0 < sp_f P a480 1 := mt_f_ne hW490 hA485.2 (by omega)
                            have hn508 : 0 < I499 82 8 := by rw [he501]; exact hz507
                            have hx509 : sp_R K P V (3, a, dp, sk, ld, nm, cs) (.inr (sp_f P a480 1)) := sp_R_s hR492 (by
                              show (if K _ = _ then _ else _) = _
                              rw [if_neg (by omega)])
                            show yi_D zi_Ms d zi_m97 k (179, [(2, .inl 1), (0, .inr (.inr (some 82))), (1, .inl (dp : Int))], [], (I499, L, R, Y), 0, 0) _
                            refine yi_D_run 1 (192, [(2, .inl 1), (0, .inr (.inr (some 82))), (1, .inl (dp : Int))], [], (I499, L, R, Y), 0, 0) (fun _ => rfl) ?_
                            refine yi_D_retv rfl ?_
                            exact ⟨_, rfl, hF506, Or.inr ⟨_, hx509, hz507, he501⟩⟩
                        · have hW510 := mt_W_t hW474 hFr479
                          have hF511 := mt_F_t hF475 hFr479
                          have hn512 : 0 < I478 82 8 := by rw [he489]; exact hz488
                          have hx513 : sp_R K P V (3, a, dp, sk, ld, nm, cs) (.inr f486) := sp_R_t hst477 hR487
                          show yi_D zi_Ms d zi_m97 k (173, [(2, .inl 1), (0, .inr (.inr (some 82))), (1, .inl (dp : Int))], [], (I478, L, R, Y), 0, 0) _
                          refine yi_D_run 2 (176, [(2, .inl 1), (0, .inr (.inr (some 82))), (1, .inl (dp : Int))], [.inl 41, .inr (.inr (some 82))], (I478, L, R, Y), 0, 0) (fun _ => rfl) ?_
                          refine yi_D_callv rfl (q_takeSign_f hW510 hn512) ?_
                          rintro _ rfl
                          show yi_D zi_Ms d zi_m97 k (179, [(2, .inl 1), (0, .inr (.inr (some 82))), (1, .inl (dp : Int))], [], (I478, L, R, Y), 0, 0) _
                          refine yi_D_run 1 (192, [(2, .inl 1), (0, .inr (.inr (some 82))), (1, .inl (dp : Int))], [], (I478, L, R, Y), 0, 0) (fun _ => rfl) ?_
                          refine yi_D_retv rfl ?_
                          exact ⟨_, rfl, hF511, Or.inr ⟨_, hx513, hz488, he489⟩⟩
                      · exfalso; omega
              · show yi_D zi_Ms d zi_m97 k (66, [(0, .inr (.inr (some 82))), (1, .inl (dp : Int))], [.inl 0], (I, L, R, Y), 0, 0) _
                refine yi_D_if1 true rfl (by decide) ?_
                refine yi_D_run 3 (76, [(2, .inl 0), (0, .inr (.inr (some 82))), (1, .inl (dp : Int))], [.inl 0], (I, L, R, Y), 0, 0) (fun _ => rfl) ?_
                refine yi_D_if1 false rfl (by decide) ?_
                refine yi_D_run 2 (81, [(2, .inl 0), (0, .inr (.inr (some 82))), (1, .inl (dp : Int))], [.inl 1, .inr (.inr (some 82))], (I, L, R, Y), 0, 0) (fun _ => rfl) ?_
                refine yi_D_callv rfl (q_wrong_z ⟨by omega, by omega⟩ hW hf hA) ?_
                rintro _ ⟨I514, rfl, hg515, he516⟩
                have hGw517 : mt_G I I514 := fun p k hp => hg515 p k (by omega)
                have hW518 := mt_W_t hW (mt_G_F hGw517)
                have hF519 := (mt_G_F hGw517)
                have hG520 := hGw517
                have hz521 : 0 < sp_f P a 1 := mt_f_ne hW hA.2 (by omega)
                have hn522 : 0 < I514 82 8 := by rw [he516]; exact hz521
                have hx523 : sp_R K P V (3, a, dp, sk, ld, nm, cs) (.inr (sp_f P a 1)) := sp_R_1 (by
                  show sp_item K P V a dp sk ld nm cs = _
                  first
                  | (exfalso; omega)
                  | (unfold sp_item; (repeat (first | rw [if_pos (by omega)] | rw [if_neg (by omega)])); done))
                show yi_D zi_Ms d zi_m97 k (84, [(2, .inl 0), (0, .inr (.inr (some 82))), (1, .inl (dp : Int))], [], (I514, L, R, Y), 0, 0) _
                refine yi_D_run 2 (125, [(2, .inl 0), (0, .inr (.inr (some 82))), (1, .inl (dp : Int))], [.inr (.inr (some 82))], (I514, L, R, Y), 0, 0) (fun _ => rfl) ?_
                refine yi_D_gi (v := I514 82 8) rfl rfl rfl rfl (fun _ => ?_)
                have h524 : ¬ ((I514 82 8) ≤ 0) := by omega
                refine yi_D_if1 false rfl (yi_le_f h524) ?_
                refine yi_D_retv rfl ?_
                exact ⟨_, rfl, hF519, Or.inr ⟨_, hx523, hz521, he516⟩⟩
