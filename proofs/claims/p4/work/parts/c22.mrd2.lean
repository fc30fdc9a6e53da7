/-! The check reader takes words, numbers, names. -/
theorem q_takeWord_z {d : Nat} {I L : Nat → Nat → Int} {R : Nat → Nat → Option Nat} {Y : (Nat → Nat) × (Nat → Nat) × Nat} {c : Int} (w0 : 0 ≤ c) (w1 : c < 29) {K P V : Nat → Int} {te b a : Nat} {ld : Nat → Int} {nm : Int → Int} (hW : mt_W I L R Y K P V te b ld nm) (hf : I 82 8 = 0) (hA : mt_A I te a) : yi_P zi_Ms d 120 [.inr (.inr (some 82)), .inl c] (I, L, R, Y) (fun r => (K a = 4 + c ∧ ∃ I', r = (none, (I', L, R, Y), 0, 0) ∧ mt_G I I' ∧ I' 82 8 = 0 ∧ mt_A I' te (a + 1)) ∨ (¬ K a = 4 + c ∧ ∃ I', r = (none, (I', L, R, Y), 0, 0) ∧ mt_G I I' ∧ I' 82 8 = sp_f P a 1)) := by
  refine yi_P_of (M := zi_m120) rfl (fun d k => ?_)
  have hS := hW.1
  have ht := hW.2.1.1
  have ha := hA.2
  have hp := hW.2.1.2.1 a hA.2
  show yi_D zi_Ms d zi_m120 k (0, [(0, .inr (.inr (some 82))), (1, .inl c)], [], (I, L, R, Y), 0, 0) _
  refine yi_D_run 2 (2, [(0, .inr (.inr (some 82))), (1, .inl c)], [.inl c, .inr (.inr (some 82))], (I, L, R, Y), 0, 0) (fun _ => rfl) ?_
  refine yi_D_callv rfl (q_hasWord_z (by omega) (by omega) hW hf hA) ?_
  rintro _ (⟨c1, I2, rfl, hGa3, hf4, hA5⟩ | ⟨c6, I7, rfl, hGa8, hf9, hA10⟩)
  · have hA5 : mt_A I2 te (a + 1) := hA5
    have hW11 := mt_W_t hW (mt_G_F hGa3)
    have hF12 := (mt_G_F hGa3)
    have hG13 := hGa3
    show yi_D zi_Ms d zi_m120 k (5, [(0, .inr (.inr (some 82))), (1, .inl c)], [.inl 1], (I2, L, R, Y), 0, 0) _
    refine yi_D_if1 true rfl (by decide) ?_
    refine yi_D_retv rfl ?_
    first
    | exact Or.inl ⟨by omega, _, rfl, hG13, hf4, hA5⟩
    | exact Or.inr ⟨by omega, _, rfl, hG13, hf4, hA5⟩
  · have hA10 : mt_A I7 te a := hA10
    have hW14 := mt_W_t hW (mt_G_F hGa8)
    have hF15 := (mt_G_F hGa8)
    have hG16 := hGa8
    show yi_D zi_Ms d zi_m120 k (5, [(0, .inr (.inr (some 82))), (1, .inl c)], [.inl 0], (I7, L, R, Y), 0, 0) _
    refine yi_D_if1 false rfl (by decide) ?_
    refine yi_D_run 2 (10, [(0, .inr (.inr (some 82))), (1, .inl c)], [.inl 1, .inr (.inr (some 82))], (I7, L, R, Y), 0, 0) (fun _ => rfl) ?_
    refine yi_D_callv rfl (q_wrong_z ⟨by omega, by omega⟩ hW14 hf9 hA10) ?_
    rintro _ ⟨I17, rfl, hg18, he19⟩
    have hGw20 : mt_G I7 I17 := fun p k hp => hg18 p k (by omega)
    have hW21 := mt_W_t hW14 (mt_G_F hGw20)
    have hF22 := mt_F_t hF15 (mt_G_F hGw20)
    have hG23 := mt_G_t hG16 hGw20
    have hz24 : 0 < sp_f P a 1 := mt_f_ne hW14 hA10.2 (by omega)
    have hn25 : 0 < I17 82 8 := by rw [he19]; exact hz24
    show yi_D zi_Ms d zi_m120 k (13, [(0, .inr (.inr (some 82))), (1, .inl c)], [], (I17, L, R, Y), 0, 0) _
    refine yi_D_retv rfl ?_
    first
    | exact Or.inr ⟨by omega, _, rfl, hG23, he19⟩
theorem q_takeWord_f {d : Nat} {I L : Nat → Nat → Int} {R : Nat → Nat → Option Nat} {Y : (Nat → Nat) × (Nat → Nat) × Nat} {c : Int} {K P V : Nat → Int} {te b : Nat} {ld : Nat → Int} {nm : Int → Int} (hW : mt_W I L R Y K P V te b ld nm) (hf : 0 < I 82 8) : yi_P zi_Ms d 120 [.inr (.inr (some 82)), .inl c] (I, L, R, Y) (fun r => ∃ I', r = (none, (I', L, R, Y), 0, 0) ∧ mt_G I I' ∧ I' 82 8 = I 82 8) := by
  refine yi_P_of (M := zi_m120) rfl (fun d k => ?_)
  have hS := hW.1
  show yi_D zi_Ms d zi_m120 k (0, [(0, .inr (.inr (some 82))), (1, .inl c)], [], (I, L, R, Y), 0, 0) _
  refine yi_D_run 2 (2, [(0, .inr (.inr (some 82))), (1, .inl c)], [.inl c, .inr (.inr (some 82))], (I, L, R, Y), 0, 0) (fun _ => rfl) ?_
  refine yi_D_callv rfl (q_hasWord_f hW hf) ?_
  rintro _ ⟨I1, rfl, hGa2, hq3⟩
  have hW4 := mt_W_t hW (mt_G_F hGa2)
  have hF5 := (mt_G_F hGa2)
  have hG6 := hGa2
  have hf7 : 0 < I1 82 8 := by rw [hq3]; exact hf
  show yi_D zi_Ms d zi_m120 k (5, [(0, .inr (.inr (some 82))), (1, .inl c)], [.inl 0], (I1, L, R, Y), 0, 0) _
  refine yi_D_if1 false rfl (by decide) ?_
  refine yi_D_run 2 (10, [(0, .inr (.inr (some 82))), (1, .inl c)], [.inl 1, .inr (.inr (some 82))], (I1, L, R, Y), 0, 0) (fun _ => rfl) ?_
  refine yi_D_callv rfl (q_wrong_f hW4 hf7) ?_
  rintro _ rfl
  show yi_D zi_Ms d zi_m120 k (13, [(0, .inr (.inr (some 82))), (1, .inl c)], [], (I1, L, R, Y), 0, 0) _
  refine yi_D_retv rfl ?_
  exact ⟨_, rfl, hG6, by rw [hq3]⟩
theorem q_takeNumber_z {d : Nat} {I L : Nat → Nat → Int} {R : Nat → Nat → Option Nat} {Y : (Nat → Nat) × (Nat → Nat) × Nat} {lo hi : Int} {K P V : Nat → Int} {te b a : Nat} {ld : Nat → Int} {nm : Int → Int} (hW : mt_W I L R Y K P V te b ld nm) (hf : I 82 8 = 0) (hA : mt_A I te a) : yi_P zi_Ms d 116 [.inr (.inr (some 82)), .inl lo, .inl hi] (I, L, R, Y) (fun r => (K a = 2 ∧ (lo ≤ V a ∧ V a ≤ hi) ∧ ∃ I', r = (some (.inl (V a)), (I', L, R, Y), 0, 0) ∧ mt_G I I' ∧ I' 82 8 = 0 ∧ mt_A I' te (a + 1)) ∨ (¬ K a = 2 ∧ ∃ z I', r = (some (.inl z), (I', L, R, Y), 0, 0) ∧ mt_G I I' ∧ I' 82 8 = sp_f P a 1) ∨ ((K a = 2 ∧ (V a < lo ∨ hi < V a)) ∧ ∃ z I', r = (some (.inl z), (I', L, R, Y), 0, 0) ∧ mt_G I I' ∧ I' 82 8 = sp_f P a 4)) := by
  refine yi_P_of (M := zi_m116) rfl (fun d k => ?_)
  have hS := hW.1
  have ht := hW.2.1.1
  have ha := hA.2
  have hp := hW.2.1.2.1 a hA.2
  have hnb := mt_nb hW.2.1 hA.2
  have hv2 := hp.2.2.2.1
  show yi_D zi_Ms d zi_m116 k (0, [(0, .inr (.inr (some 82))), (1, .inl lo), (2, .inl hi)], [], (I, L, R, Y), 0, 0) _
  refine yi_D_run 1 (1, [(0, .inr (.inr (some 82))), (1, .inl lo), (2, .inl hi)], [.inr (.inr (some 82))], (I, L, R, Y), 0, 0) (fun _ => rfl) ?_
  refine yi_D_gi (v := 0) rfl rfl rfl hf (fun _ => ?_)
  refine yi_D_if1 false rfl (by decide) ?_
  refine yi_D_run 1 (8, [(0, .inr (.inr (some 82))), (1, .inl lo), (2, .inl hi)], [.inr (.inr (some 82))], (I, L, R, Y), 0, 0) (fun _ => rfl) ?_
  refine yi_D_gr (v := some 84) rfl rfl rfl (ym_S_at hS (j := 1) rfl).1 (fun _ => ?_)
  refine yi_D_run 1 (12, [(0, .inr (.inr (some 82))), (1, .inl lo), (2, .inl hi)], [.inr (.inr (some 82)), .inr (.inr (some 84))], (I, L, R, Y), 0, 0) (fun _ => rfl) ?_
  refine yi_D_gi (v := (a : Int)) rfl rfl rfl hA.1 (fun _ => ?_)
  refine yi_D_il (v := I 84 a) rfl rfl rfl (fun _ _ => ?_)
  refine yi_D_run 1 (17, [(0, .inr (.inr (some 82))), (1, .inl lo), (2, .inl hi)], [.inl 2, .inl (I 84 a)], (I, L, R, Y), 0, 0) (fun _ => rfl) ?_
  by_cases h1 : (I 84 a) = 2
  · refine yi_D_if2 true rfl (yi_eq_t h1) ?_
    refine yi_D_run 1 (29, [(0, .inr (.inr (some 82))), (1, .inl lo), (2, .inl hi)], [.inr (.inr (some 82))], (I, L, R, Y), 0, 0) (fun _ => rfl) ?_
    refine yi_D_gi (v := 0) rfl rfl rfl hf (fun _ => ?_)
    refine yi_D_if1 false rfl (by decide) ?_
    refine yi_D_run 1 (36, [(0, .inr (.inr (some 82))), (1, .inl lo), (2, .inl hi)], [.inr (.inr (some 82))], (I, L, R, Y), 0, 0) (fun _ => rfl) ?_
    refine yi_D_gr (v := some 86) rfl rfl rfl (ym_S_at hS (j := 3) rfl).1 (fun _ => ?_)
    refine yi_D_run 1 (40, [(0, .inr (.inr (some 82))), (1, .inl lo), (2, .inl hi)], [.inr (.inr (some 82)), .inr (.inr (some 86))], (I, L, R, Y), 0, 0) (fun _ => rfl) ?_
    refine yi_D_gi (v := (a : Int)) rfl rfl rfl hA.1 (fun _ => ?_)
    refine yi_D_ll (v := L 86 a) rfl rfl rfl (fun _ _ => ?_)
    refine yi_D_run 3 (47, [(0, .inr (.inr (some 82))), (1, .inl lo), (2, .inl hi)], [.inl (yi_lcmp (L 86 a) lo)], (I, L, R, Y), 0, 0) (fun _ => rfl) ?_
    by_cases h2 : (L 86 a) < lo
    · refine yi_D_if1 true rfl (yi_Llt_t h2) ?_
      refine yi_D_run 2 (67, [(0, .inr (.inr (some 82))), (1, .inl lo), (2, .inl hi)], [.inl 4, .inr (.inr (some 82))], (I, L, R, Y), 0, 0) (fun _ => rfl) ?_
      refine yi_D_callv rfl (q_wrong_z ⟨by omega, by omega⟩ hW hf hA) ?_
      rintro _ ⟨I3, rfl, hg4, he5⟩
      have hGw6 : mt_G I I3 := fun p k hp => hg4 p k (by omega)
      have hW7 := mt_W_t hW (mt_G_F hGw6)
      have hF8 := (mt_G_F hGw6)
      have hG9 := hGw6
      have hz10 : 0 < sp_f P a 4 := mt_f_ne hW hA.2 (by omega)
      have hn11 : 0 < I3 82 8 := by rw [he5]; exact hz10
      show yi_D zi_Ms d zi_m116 k (70, [(0, .inr (.inr (some 82))), (1, .inl lo), (2, .inl hi)], [], (I3, L, R, Y), 0, 0) _
      refine yi_D_run 1 (71, [(0, .inr (.inr (some 82))), (1, .inl lo), (2, .inl hi)], [.inr (.inr (some 82))], (I3, L, R, Y), 0, 0) (fun _ => rfl) ?_
      refine yi_D_gi (v := I3 82 8) rfl rfl rfl rfl (fun _ => ?_)
      have h12 : ¬ ((I3 82 8) ≤ 0) := by omega
      refine yi_D_if1 false rfl (yi_le_f h12) ?_
      refine yi_D_run 1 (78, [(0, .inr (.inr (some 82))), (1, .inl lo), (2, .inl hi)], [.inl 0], (I3, L, R, Y), 0, 0) (fun _ => rfl) ?_
      refine yi_D_reti rfl ?_
      first
      | exact Or.inr (Or.inl ⟨by omega, _, _, rfl, hG9, he5⟩)
      | exact Or.inr (Or.inr ⟨⟨by omega, by omega⟩, _, _, rfl, hG9, he5⟩)
    · refine yi_D_if1 false rfl (yi_Llt_f h2) ?_
      refine yi_D_run 1 (51, [(0, .inr (.inr (some 82))), (1, .inl lo), (2, .inl hi)], [.inr (.inr (some 82))], (I, L, R, Y), 0, 0) (fun _ => rfl) ?_
      refine yi_D_gr (v := some 86) rfl rfl rfl (ym_S_at hS (j := 3) rfl).1 (fun _ => ?_)
      refine yi_D_run 1 (55, [(0, .inr (.inr (some 82))), (1, .inl lo), (2, .inl hi)], [.inr (.inr (some 82)), .inr (.inr (some 86))], (I, L, R, Y), 0, 0) (fun _ => rfl) ?_
      refine yi_D_gi (v := (a : Int)) rfl rfl rfl hA.1 (fun _ => ?_)
      refine yi_D_ll (v := L 86 a) rfl rfl rfl (fun _ _ => ?_)
      refine yi_D_run 3 (62, [(0, .inr (.inr (some 82))), (1, .inl lo), (2, .inl hi)], [.inl (yi_lcmp (L 86 a) hi)], (I, L, R, Y), 0, 0) (fun _ => rfl) ?_
      by_cases h13 : (L 86 a) ≤ hi
      · refine yi_D_if1 true rfl (yi_Lle_t h13) ?_
        refine yi_D_run 1 (71, [(0, .inr (.inr (some 82))), (1, .inl lo), (2, .inl hi)], [.inr (.inr (some 82))], (I, L, R, Y), 0, 0) (fun _ => rfl) ?_
        refine yi_D_gi (v := 0) rfl rfl rfl hf (fun _ => ?_)
        refine yi_D_if1 true rfl (by decide) ?_
        refine yi_D_run 2 (81, [(0, .inr (.inr (some 82))), (1, .inl lo), (2, .inl hi)], [.inr (.inr (some 82)), .inr (.inr (some 82))], (I, L, R, Y), 0, 0) (fun _ => rfl) ?_
        refine yi_D_gi (v := (a : Int)) rfl rfl rfl hA.1 (fun _ => ?_)
        refine yi_D_run 1 (85, [(0, .inr (.inr (some 82))), (1, .inl lo), (2, .inl hi)], [.inl 1, .inl (a : Int), .inr (.inr (some 82))], (I, L, R, Y), 0, 0) (fun _ => rfl) ?_
        refine yi_D_iadd rfl ((a : Int) + 1) (yi_wn (by omega) (by omega)) ?_
        refine yi_D_pi rfl (fun _ => ?_)
        generalize w15 : yi_u I 82 7 ((a : Int) + 1) = I14
        have hGn16 : mt_G I I14 := fun p k hp => by rw [← w15, yi_u_ne _ _ (by omega)]
        have hW17 := mt_W_t hW (mt_G_F hGn16)
        have hF18 := (mt_G_F hGn16)
        have hG19 := hGn16
        have hf20 : I14 82 8 = 0 := by rw [← w15, yi_u_ne _ _ (by omega)]; exact hf
        have hA21 : mt_A I14 te (a + 1) := ⟨by rw [← w15, yi_u_eq]; omega, mt_lt hW17.2.1 hA.2 (by omega)⟩
        refine yi_D_run 1 (90, [(0, .inr (.inr (some 82))), (1, .inl lo), (2, .inl hi)], [.inr (.inr (some 82))], (I14, L, R, Y), 0, 0) (fun _ => rfl) ?_
        refine yi_D_gr (v := some 86) rfl rfl rfl (ym_S_at hS (j := 3) rfl).1 (fun _ => ?_)
        refine yi_D_run 1 (94, [(0, .inr (.inr (some 82))), (1, .inl lo), (2, .inl hi)], [.inr (.inr (some 82)), .inr (.inr (some 86))], (I14, L, R, Y), 0, 0) (fun _ => rfl) ?_
        refine yi_D_gi (v := ((a + 1 : Nat) : Int)) rfl rfl rfl hA21.1 (fun _ => ?_)
        refine yi_D_run 1 (98, [(0, .inr (.inr (some 82))), (1, .inl lo), (2, .inl hi)], [.inl 1, .inl ((a + 1 : Nat) : Int), .inr (.inr (some 86))], (I14, L, R, Y), 0, 0) (fun _ => rfl) ?_
        refine yi_D_isub rfl (((a + 1 : Nat) : Int) - 1) (yi_wn (by omega) (by omega)) ?_
        have hi1 : (((a + 1 : Nat) : Int) - 1).toNat = a := by omega
        refine yi_D_ll (v := L 86 ((((a + 1 : Nat) : Int) - 1).toNat)) rfl rfl rfl (fun _ _ => ?_)
        have hl1 : L 86 ((((a + 1 : Nat) : Int) - 1).toNat) = V a := by rw [hi1]; exact (hv2 (by omega)).1
        refine yi_D_l2i rfl (L 86 ((((a + 1 : Nat) : Int) - 1).toNat)) (yi_wn (by omega) (by omega)) ?_
        refine yi_D_reti rfl ?_
        exact Or.inl ⟨by omega, ⟨by omega, by omega⟩, _, by rw [show (L 86 ((((a + 1 : Nat) : Int) - 1).toNat)) = V a by omega], hG19, hf20, hA21⟩
      · refine yi_D_if1 false rfl (yi_Lle_f h13) ?_
        refine yi_D_run 2 (67, [(0, .inr (.inr (some 82))), (1, .inl lo), (2, .inl hi)], [.inl 4, .inr (.inr (some 82))], (I, L, R, Y), 0, 0) (fun _ => rfl) ?_
        refine yi_D_callv rfl (q_wrong_z ⟨by omega, by omega⟩ hW hf hA) ?_
        rintro _ ⟨I22, rfl, hg23, he24⟩
        have hGw25 : mt_G I I22 := fun p k hp => hg23 p k (by omega)
        have hW26 := mt_W_t hW (mt_G_F hGw25)
        have hF27 := (mt_G_F hGw25)
        have hG28 := hGw25
        have hz29 : 0 < sp_f P a 4 := mt_f_ne hW hA.2 (by omega)
        have hn30 : 0 < I22 82 8 := by rw [he24]; exact hz29
        show yi_D zi_Ms d zi_m116 k (70, [(0, .inr (.inr (some 82))), (1, .inl lo), (2, .inl hi)], [], (I22, L, R, Y), 0, 0) _
        refine yi_D_run 1 (71, [(0, .inr (.inr (some 82))), (1, .inl lo), (2, .inl hi)], [.inr (.inr (some 82))], (I22, L, R, Y), 0, 0) (fun _ => rfl) ?_
        refine yi_D_gi (v := I22 82 8) rfl rfl rfl rfl (fun _ => ?_)
        have h31 : ¬ ((I22 82 8) ≤ 0) := by omega
        refine yi_D_if1 false rfl (yi_le_f h31) ?_
        refine yi_D_run 1 (78, [(0, .inr (.inr (some 82))), (1, .inl lo), (2, .inl hi)], [.inl 0], (I22, L, R, Y), 0, 0) (fun _ => rfl) ?_
        refine yi_D_reti rfl ?_
        first
        | exact Or.inr (Or.inl ⟨by omega, _, _, rfl, hG28, he24⟩)
        | exact Or.inr (Or.inr ⟨⟨by omega, by omega⟩, _, _, rfl, hG28, he24⟩)
  · refine yi_D_if2 false rfl (yi_eq_f h1) ?_
    refine yi_D_run 2 (22, [(0, .inr (.inr (some 82))), (1, .inl lo), (2, .inl hi)], [.inl 1, .inr (.inr (some 82))], (I, L, R, Y), 0, 0) (fun _ => rfl) ?_
    refine yi_D_callv rfl (q_wrong_z ⟨by omega, by omega⟩ hW hf hA) ?_
    rintro _ ⟨I32, rfl, hg33, he34⟩
    have hGw35 : mt_G I I32 := fun p k hp => hg33 p k (by omega)
    have hW36 := mt_W_t hW (mt_G_F hGw35)
    have hF37 := (mt_G_F hGw35)
    have hG38 := hGw35
    have hz39 : 0 < sp_f P a 1 := mt_f_ne hW hA.2 (by omega)
    have hn40 : 0 < I32 82 8 := by rw [he34]; exact hz39
    show yi_D zi_Ms d zi_m116 k (25, [(0, .inr (.inr (some 82))), (1, .inl lo), (2, .inl hi)], [], (I32, L, R, Y), 0, 0) _
    refine yi_D_run 2 (71, [(0, .inr (.inr (some 82))), (1, .inl lo), (2, .inl hi)], [.inr (.inr (some 82))], (I32, L, R, Y), 0, 0) (fun _ => rfl) ?_
    refine yi_D_gi (v := I32 82 8) rfl rfl rfl rfl (fun _ => ?_)
    have h41 : ¬ ((I32 82 8) ≤ 0) := by omega
    refine yi_D_if1 false rfl (yi_le_f h41) ?_
    refine yi_D_run 1 (78, [(0, .inr (.inr (some 82))), (1, .inl lo), (2, .inl hi)], [.inl 0], (I32, L, R, Y), 0, 0) (fun _ => rfl) ?_
    refine yi_D_reti rfl ?_
    first
    | exact Or.inr (Or.inl ⟨by omega, _, _, rfl, hG38, he34⟩)
    | exact Or.inr (Or.inr ⟨⟨by omega, by omega⟩, _, _, rfl, hG38, he34⟩)
theorem q_takeNumber_f {d : Nat} {I L : Nat → Nat → Int} {R : Nat → Nat → Option Nat} {Y : (Nat → Nat) × (Nat → Nat) × Nat} {lo hi : Int} {K P V : Nat → Int} {te b : Nat} {ld : Nat → Int} {nm : Int → Int} (hW : mt_W I L R Y K P V te b ld nm) (hf : 0 < I 82 8) : yi_P zi_Ms d 116 [.inr (.inr (some 82)), .inl lo, .inl hi] (I, L, R, Y) (fun r => ∃ z, r = (some (.inl z), (I, L, R, Y), 0, 0)) := by
  refine yi_P_of (M := zi_m116) rfl (fun d k => ?_)
  have hS := hW.1
  show yi_D zi_Ms d zi_m116 k (0, [(0, .inr (.inr (some 82))), (1, .inl lo), (2, .inl hi)], [], (I, L, R, Y), 0, 0) _
  refine yi_D_run 1 (1, [(0, .inr (.inr (some 82))), (1, .inl lo), (2, .inl hi)], [.inr (.inr (some 82))], (I, L, R, Y), 0, 0) (fun _ => rfl) ?_
  refine yi_D_gi (v := I 82 8) rfl rfl rfl rfl (fun _ => ?_)
  have h1 : ¬ ((I 82 8) = 0) := by omega
  refine yi_D_if1 true rfl (yi_ne_t h1) ?_
  refine yi_D_run 1 (29, [(0, .inr (.inr (some 82))), (1, .inl lo), (2, .inl hi)], [.inr (.inr (some 82))], (I, L, R, Y), 0, 0) (fun _ => rfl) ?_
  refine yi_D_gi (v := I 82 8) rfl rfl rfl rfl (fun _ => ?_)
  have h2 : ¬ ((I 82 8) = 0) := by omega
  refine yi_D_if1 true rfl (yi_ne_t h2) ?_
  refine yi_D_run 1 (71, [(0, .inr (.inr (some 82))), (1, .inl lo), (2, .inl hi)], [.inr (.inr (some 82))], (I, L, R, Y), 0, 0) (fun _ => rfl) ?_
  refine yi_D_gi (v := I 82 8) rfl rfl rfl rfl (fun _ => ?_)
  have h3 : ¬ ((I 82 8) ≤ 0) := by omega
  refine yi_D_if1 false rfl (yi_le_f h3) ?_
  refine yi_D_run 1 (78, [(0, .inr (.inr (some 82))), (1, .inl lo), (2, .inl hi)], [.inl 0], (I, L, R, Y), 0, 0) (fun _ => rfl) ?_
  refine yi_D_reti rfl ?_
  exact ⟨_, rfl⟩
