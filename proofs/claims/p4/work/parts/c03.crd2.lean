/-! The class reader takes tokens. -/
theorem p_takeKind_z {d : Nat} {I L : Nat → Nat → Int} {R : Nat → Nat → Option Nat} {Y : (Nat → Nat) × (Nat → Nat) × Nat} {w : Int} (w0 : ¬ w = 0) {K P V : Nat → Int} {te q a : Nat} {ld : Nat → Int} {nm : Int → Int} (hW : cs_W I L R Y K P V te q ld nm) (hf : I 11 11 = 0) (hA : cs_A I L K te a) : yi_P zi_Ms d 268 [.inr (.inr (some 11)), .inl w] (I, L, R, Y) (fun r => (K a = w ∧ ∃ I' L', r = (none, (I', L', R, Y), 0, 0) ∧ cs_G I L I' L' ∧ I' 11 11 = 0 ∧ cs_A I' L' K te (a + 1)) ∨ (¬ K a = w ∧ ∃ I' L', r = (none, (I', L', R, Y), 0, 0) ∧ cs_G I L I' L' ∧ I' 11 11 = sp_f P a 1)) := by
  refine yi_P_of (M := zi_m268) rfl (fun d k => ?_)
  show yi_D zi_Ms d zi_m268 k (0, [(0, .inr (.inr (some 11))), (1, .inl w)], [], (I, L, R, Y), 0, 0) _
  refine yi_D_run 1 (1, [(0, .inr (.inr (some 11))), (1, .inl w)], [.inr (.inr (some 11))], (I, L, R, Y), 0, 0) (fun _ => rfl) ?_
  refine yi_D_gi (v := K a) rfl rfl rfl hA.2.2.1 (fun _ => ?_)
  refine yi_D_run 1 (5, [(0, .inr (.inr (some 11))), (1, .inl w)], [.inl w, .inl (K a)], (I, L, R, Y), 0, 0) (fun _ => rfl) ?_
  by_cases h1 : (K a) = w
  · refine yi_D_if2 true rfl (yi_eq_t h1) ?_
    refine yi_D_run 1 (14, [(0, .inr (.inr (some 11))), (1, .inl w)], [.inr (.inr (some 11))], (I, L, R, Y), 0, 0) (fun _ => rfl) ?_
    refine yi_D_callv rfl (p_advance_z hW hf hA) ?_
    rintro _ ⟨I2, L3, rfl, hGa4, hf5, hA6⟩
    rw [sp_nx_lt (cs_lt hW.2.1 hA.2.1 (by omega))] at hA6
    have hA6 : cs_A I2 L3 K te (a + 1) := hA6
    have hW7 := cs_W_t hW (cs_G_F hGa4)
    have hF8 := (cs_G_F hGa4)
    have hG9 := hGa4
    show yi_D zi_Ms d zi_m268 k (17, [(0, .inr (.inr (some 11))), (1, .inl w)], [], (I2, L3, R, Y), 0, 0) _
    refine yi_D_retv rfl ?_
    exact Or.inl ⟨by omega, _, _, rfl, hG9, hf5, hA6⟩
  · refine yi_D_if2 false rfl (yi_eq_f h1) ?_
    refine yi_D_run 2 (10, [(0, .inr (.inr (some 11))), (1, .inl w)], [.inl 1, .inr (.inr (some 11))], (I, L, R, Y), 0, 0) (fun _ => rfl) ?_
    refine yi_D_callv rfl (p_wrong_z ⟨by omega, by omega⟩ hW hf hA) ?_
    rintro _ ⟨I10, rfl, hg11, he12⟩
    have hGw13 : cs_G I L I10 L := ⟨fun p k hp => hg11 p k (by omega), fun _ _ _ => rfl⟩
    have hW14 := cs_W_t hW (cs_G_F hGw13)
    have hF15 := (cs_G_F hGw13)
    have hG16 := hGw13
    have hz17 : ¬ sp_f P a 1 = 0 := sp_f_ne hW hA.2.1 (by omega)
    have hn18 : ¬ I10 11 11 = 0 := by rw [he12]; exact hz17
    show yi_D zi_Ms d zi_m268 k (13, [(0, .inr (.inr (some 11))), (1, .inl w)], [], (I10, L, R, Y), 0, 0) _
    refine yi_D_run 1 (14, [(0, .inr (.inr (some 11))), (1, .inl w)], [.inr (.inr (some 11))], (I10, L, R, Y), 0, 0) (fun _ => rfl) ?_
    refine yi_D_callv rfl (p_advance_f hW14 hn18) ?_
    rintro _ rfl
    show yi_D zi_Ms d zi_m268 k (17, [(0, .inr (.inr (some 11))), (1, .inl w)], [], (I10, L, R, Y), 0, 0) _
    refine yi_D_retv rfl ?_
    exact Or.inr ⟨by omega, _, _, rfl, hG16, he12⟩
theorem p_takeKind_f {d : Nat} {I L : Nat → Nat → Int} {R : Nat → Nat → Option Nat} {Y : (Nat → Nat) × (Nat → Nat) × Nat} {w : Int} {K P V : Nat → Int} {te q : Nat} {ld : Nat → Int} {nm : Int → Int} (hW : cs_W I L R Y K P V te q ld nm) (hf : ¬ I 11 11 = 0) : yi_P zi_Ms d 268 [.inr (.inr (some 11)), .inl w] (I, L, R, Y) (fun r => r = (none, (I, L, R, Y), 0, 0)) := by
  refine yi_P_of (M := zi_m268) rfl (fun d k => ?_)
  show yi_D zi_Ms d zi_m268 k (0, [(0, .inr (.inr (some 11))), (1, .inl w)], [], (I, L, R, Y), 0, 0) _
  refine yi_D_run 1 (1, [(0, .inr (.inr (some 11))), (1, .inl w)], [.inr (.inr (some 11))], (I, L, R, Y), 0, 0) (fun _ => rfl) ?_
  refine yi_D_gi (v := I 11 9) rfl rfl rfl rfl (fun _ => ?_)
  refine yi_D_run 1 (5, [(0, .inr (.inr (some 11))), (1, .inl w)], [.inl w, .inl (I 11 9)], (I, L, R, Y), 0, 0) (fun _ => rfl) ?_
  by_cases h1 : (I 11 9) = w
  · refine yi_D_if2 true rfl (yi_eq_t h1) ?_
    refine yi_D_run 1 (14, [(0, .inr (.inr (some 11))), (1, .inl w)], [.inr (.inr (some 11))], (I, L, R, Y), 0, 0) (fun _ => rfl) ?_
    refine yi_D_callv rfl (p_advance_f hW hf) ?_
    rintro _ rfl
    show yi_D zi_Ms d zi_m268 k (17, [(0, .inr (.inr (some 11))), (1, .inl w)], [], (I, L, R, Y), 0, 0) _
    refine yi_D_retv rfl ?_
    rfl
  · refine yi_D_if2 false rfl (yi_eq_f h1) ?_
    refine yi_D_run 2 (10, [(0, .inr (.inr (some 11))), (1, .inl w)], [.inl 1, .inr (.inr (some 11))], (I, L, R, Y), 0, 0) (fun _ => rfl) ?_
    refine yi_D_callv rfl (p_wrong_f hW hf) ?_
    rintro _ rfl
    show yi_D zi_Ms d zi_m268 k (13, [(0, .inr (.inr (some 11))), (1, .inl w)], [], (I, L, R, Y), 0, 0) _
    refine yi_D_run 1 (14, [(0, .inr (.inr (some 11))), (1, .inl w)], [.inr (.inr (some 11))], (I, L, R, Y), 0, 0) (fun _ => rfl) ?_
    refine yi_D_callv rfl (p_advance_f hW hf) ?_
    rintro _ rfl
    show yi_D zi_Ms d zi_m268 k (17, [(0, .inr (.inr (some 11))), (1, .inl w)], [], (I, L, R, Y), 0, 0) _
    refine yi_D_retv rfl ?_
    rfl
theorem p_takeNumber_z {d : Nat} {I L : Nat → Nat → Int} {R : Nat → Nat → Option Nat} {Y : (Nat → Nat) × (Nat → Nat) × Nat} {lo hi : Int} {K P V : Nat → Int} {te q a : Nat} {ld : Nat → Int} {nm : Int → Int} (hW : cs_W I L R Y K P V te q ld nm) (hf : I 11 11 = 0) (hA : cs_A I L K te a) : yi_P zi_Ms d 271 [.inr (.inr (some 11)), .inl lo, .inl hi] (I, L, R, Y) (fun r => (K a = 2 ∧ (lo ≤ V a ∧ V a ≤ hi) ∧ ∃ I' L', r = (some (.inl (V a)), (I', L', R, Y), 0, 0) ∧ cs_G I L I' L' ∧ I' 11 11 = 0 ∧ cs_A I' L' K te (a + 1)) ∨ ((¬ K a = 2) ∧ ∃ z I' L', r = (some (.inl z), (I', L', R, Y), 0, 0) ∧ cs_G I L I' L' ∧ I' 11 11 = sp_f P a 1) ∨ ((K a = 2 ∧ (V a < lo ∨ hi < V a)) ∧ ∃ z I' L', r = (some (.inl z), (I', L', R, Y), 0, 0) ∧ cs_G I L I' L' ∧ I' 11 11 = sp_f P a 4)) := by
  refine yi_P_of (M := zi_m271) rfl (fun d k => ?_)
  have hp := hW.2.1.2.2.1 a hA.2.1
  have hv2 : K a = 2 → yi_w (L 16 a) = V a := fun h => by have z := hp.2.2.2.1 h; rw [z.1]; exact yi_wn (by omega) (by omega)
  show yi_D zi_Ms d zi_m271 k (0, [(0, .inr (.inr (some 11))), (1, .inl lo), (2, .inl hi)], [], (I, L, R, Y), 0, 0) _
  refine yi_D_run 1 (1, [(0, .inr (.inr (some 11))), (1, .inl lo), (2, .inl hi)], [.inr (.inr (some 11))], (I, L, R, Y), 0, 0) (fun _ => rfl) ?_
  refine yi_D_gl (v := L 16 a) rfl rfl rfl hA.2.2.2 (fun _ => ?_)
  refine yi_D_run 3 (7, [(3, .inl (yi_w (L 16 a))), (0, .inr (.inr (some 11))), (1, .inl lo), (2, .inl hi)], [.inr (.inr (some 11))], (I, L, R, Y), 0, 0) (fun _ => rfl) ?_
  refine yi_D_gi (v := K a) rfl rfl rfl hA.2.2.1 (fun _ => ?_)
  refine yi_D_run 1 (11, [(3, .inl (yi_w (L 16 a))), (0, .inr (.inr (some 11))), (1, .inl lo), (2, .inl hi)], [.inl 2, .inl (K a)], (I, L, R, Y), 0, 0) (fun _ => rfl) ?_
  by_cases h1 : (K a) = 2
  · refine yi_D_if2 true rfl (yi_eq_t h1) ?_
    refine yi_D_run 2 (24, [(3, .inl (yi_w (L 16 a))), (0, .inr (.inr (some 11))), (1, .inl lo), (2, .inl hi)], [.inl lo, .inl (yi_w (L 16 a))], (I, L, R, Y), 0, 0) (fun _ => rfl) ?_
    by_cases h2 : (yi_w (L 16 a)) < lo
    · refine yi_D_if2 true rfl (yi_lt_t h2) ?_
      refine yi_D_run 2 (34, [(3, .inl (yi_w (L 16 a))), (0, .inr (.inr (some 11))), (1, .inl lo), (2, .inl hi)], [.inl 4, .inr (.inr (some 11))], (I, L, R, Y), 0, 0) (fun _ => rfl) ?_
      refine yi_D_callv rfl (p_wrong_z ⟨by omega, by omega⟩ hW hf hA) ?_
      rintro _ ⟨I3, rfl, hg4, he5⟩
      have hGw6 : cs_G I L I3 L := ⟨fun p k hp => hg4 p k (by omega), fun _ _ _ => rfl⟩
      have hW7 := cs_W_t hW (cs_G_F hGw6)
      have hF8 := (cs_G_F hGw6)
      have hG9 := hGw6
      have hz10 : ¬ sp_f P a 4 = 0 := sp_f_ne hW hA.2.1 (by omega)
      have hn11 : ¬ I3 11 11 = 0 := by rw [he5]; exact hz10
      show yi_D zi_Ms d zi_m271 k (37, [(3, .inl (yi_w (L 16 a))), (0, .inr (.inr (some 11))), (1, .inl lo), (2, .inl hi)], [], (I3, L, R, Y), 0, 0) _
      refine yi_D_run 1 (38, [(3, .inl (yi_w (L 16 a))), (0, .inr (.inr (some 11))), (1, .inl lo), (2, .inl hi)], [.inr (.inr (some 11))], (I3, L, R, Y), 0, 0) (fun _ => rfl) ?_
      refine yi_D_callv rfl (p_advance_f hW7 hn11) ?_
      rintro _ rfl
      show yi_D zi_Ms d zi_m271 k (41, [(3, .inl (yi_w (L 16 a))), (0, .inr (.inr (some 11))), (1, .inl lo), (2, .inl hi)], [], (I3, L, R, Y), 0, 0) _
      refine yi_D_run 1 (42, [(3, .inl (yi_w (L 16 a))), (0, .inr (.inr (some 11))), (1, .inl lo), (2, .inl hi)], [.inl (yi_w (L 16 a))], (I3, L, R, Y), 0, 0) (fun _ => rfl) ?_
      refine yi_D_reti rfl ?_
      first | exact Or.inr (Or.inl ⟨by omega, _, _, _, rfl, hG9, he5⟩) | exact Or.inr (Or.inr ⟨⟨by omega, by omega⟩, _, _, _, rfl, hG9, he5⟩)
    · refine yi_D_if2 false rfl (yi_lt_f h2) ?_
      refine yi_D_run 2 (29, [(3, .inl (yi_w (L 16 a))), (0, .inr (.inr (some 11))), (1, .inl lo), (2, .inl hi)], [.inl hi, .inl (yi_w (L 16 a))], (I, L, R, Y), 0, 0) (fun _ => rfl) ?_
      by_cases h12 : (yi_w (L 16 a)) ≤ hi
      · refine yi_D_if2 true rfl (yi_le_t h12) ?_
        refine yi_D_run 1 (38, [(3, .inl (yi_w (L 16 a))), (0, .inr (.inr (some 11))), (1, .inl lo), (2, .inl hi)], [.inr (.inr (some 11))], (I, L, R, Y), 0, 0) (fun _ => rfl) ?_
        refine yi_D_callv rfl (p_advance_z hW hf hA) ?_
        rintro _ ⟨I13, L14, rfl, hGa15, hf16, hA17⟩
        rw [sp_nx_lt (cs_lt hW.2.1 hA.2.1 (by omega))] at hA17
        have hA17 : cs_A I13 L14 K te (a + 1) := hA17
        have hW18 := cs_W_t hW (cs_G_F hGa15)
        have hF19 := (cs_G_F hGa15)
        have hG20 := hGa15
        show yi_D zi_Ms d zi_m271 k (41, [(3, .inl (yi_w (L 16 a))), (0, .inr (.inr (some 11))), (1, .inl lo), (2, .inl hi)], [], (I13, L14, R, Y), 0, 0) _
        refine yi_D_run 1 (42, [(3, .inl (yi_w (L 16 a))), (0, .inr (.inr (some 11))), (1, .inl lo), (2, .inl hi)], [.inl (yi_w (L 16 a))], (I13, L14, R, Y), 0, 0) (fun _ => rfl) ?_
        refine yi_D_reti rfl ?_
        exact Or.inl ⟨by omega, ⟨by omega, by omega⟩, _, _, by rw [hv2 (by omega)], hG20, hf16, hA17⟩
      · refine yi_D_if2 false rfl (yi_le_f h12) ?_
        refine yi_D_run 2 (34, [(3, .inl (yi_w (L 16 a))), (0, .inr (.inr (some 11))), (1, .inl lo), (2, .inl hi)], [.inl 4, .inr (.inr (some 11))], (I, L, R, Y), 0, 0) (fun _ => rfl) ?_
        refine yi_D_callv rfl (p_wrong_z ⟨by omega, by omega⟩ hW hf hA) ?_
        rintro _ ⟨I21, rfl, hg22, he23⟩
        have hGw24 : cs_G I L I21 L := ⟨fun p k hp => hg22 p k (by omega), fun _ _ _ => rfl⟩
        have hW25 := cs_W_t hW (cs_G_F hGw24)
        have hF26 := (cs_G_F hGw24)
        have hG27 := hGw24
        have hz28 : ¬ sp_f P a 4 = 0 := sp_f_ne hW hA.2.1 (by omega)
        have hn29 : ¬ I21 11 11 = 0 := by rw [he23]; exact hz28
        show yi_D zi_Ms d zi_m271 k (37, [(3, .inl (yi_w (L 16 a))), (0, .inr (.inr (some 11))), (1, .inl lo), (2, .inl hi)], [], (I21, L, R, Y), 0, 0) _
        refine yi_D_run 1 (38, [(3, .inl (yi_w (L 16 a))), (0, .inr (.inr (some 11))), (1, .inl lo), (2, .inl hi)], [.inr (.inr (some 11))], (I21, L, R, Y), 0, 0) (fun _ => rfl) ?_
        refine yi_D_callv rfl (p_advance_f hW25 hn29) ?_
        rintro _ rfl
        show yi_D zi_Ms d zi_m271 k (41, [(3, .inl (yi_w (L 16 a))), (0, .inr (.inr (some 11))), (1, .inl lo), (2, .inl hi)], [], (I21, L, R, Y), 0, 0) _
        refine yi_D_run 1 (42, [(3, .inl (yi_w (L 16 a))), (0, .inr (.inr (some 11))), (1, .inl lo), (2, .inl hi)], [.inl (yi_w (L 16 a))], (I21, L, R, Y), 0, 0) (fun _ => rfl) ?_
        refine yi_D_reti rfl ?_
        first | exact Or.inr (Or.inl ⟨by omega, _, _, _, rfl, hG27, he23⟩) | exact Or.inr (Or.inr ⟨⟨by omega, by omega⟩, _, _, _, rfl, hG27, he23⟩)
  · refine yi_D_if2 false rfl (yi_eq_f h1) ?_
    refine yi_D_run 2 (16, [(3, .inl (yi_w (L 16 a))), (0, .inr (.inr (some 11))), (1, .inl lo), (2, .inl hi)], [.inl 1, .inr (.inr (some 11))], (I, L, R, Y), 0, 0) (fun _ => rfl) ?_
    refine yi_D_callv rfl (p_wrong_z ⟨by omega, by omega⟩ hW hf hA) ?_
    rintro _ ⟨I30, rfl, hg31, he32⟩
    have hGw33 : cs_G I L I30 L := ⟨fun p k hp => hg31 p k (by omega), fun _ _ _ => rfl⟩
    have hW34 := cs_W_t hW (cs_G_F hGw33)
    have hF35 := (cs_G_F hGw33)
    have hG36 := hGw33
    have hz37 : ¬ sp_f P a 1 = 0 := sp_f_ne hW hA.2.1 (by omega)
    have hn38 : ¬ I30 11 11 = 0 := by rw [he32]; exact hz37
    show yi_D zi_Ms d zi_m271 k (19, [(3, .inl (yi_w (L 16 a))), (0, .inr (.inr (some 11))), (1, .inl lo), (2, .inl hi)], [], (I30, L, R, Y), 0, 0) _
    refine yi_D_run 2 (38, [(3, .inl (yi_w (L 16 a))), (0, .inr (.inr (some 11))), (1, .inl lo), (2, .inl hi)], [.inr (.inr (some 11))], (I30, L, R, Y), 0, 0) (fun _ => rfl) ?_
    refine yi_D_callv rfl (p_advance_f hW34 hn38) ?_
    rintro _ rfl
    show yi_D zi_Ms d zi_m271 k (41, [(3, .inl (yi_w (L 16 a))), (0, .inr (.inr (some 11))), (1, .inl lo), (2, .inl hi)], [], (I30, L, R, Y), 0, 0) _
    refine yi_D_run 1 (42, [(3, .inl (yi_w (L 16 a))), (0, .inr (.inr (some 11))), (1, .inl lo), (2, .inl hi)], [.inl (yi_w (L 16 a))], (I30, L, R, Y), 0, 0) (fun _ => rfl) ?_
    refine yi_D_reti rfl ?_
    first | exact Or.inr (Or.inl ⟨by omega, _, _, _, rfl, hG36, he32⟩) | exact Or.inr (Or.inr ⟨⟨by omega, by omega⟩, _, _, _, rfl, hG36, he32⟩)
theorem p_takeNumber_f {d : Nat} {I L : Nat → Nat → Int} {R : Nat → Nat → Option Nat} {Y : (Nat → Nat) × (Nat → Nat) × Nat} {lo hi : Int} {K P V : Nat → Int} {te q : Nat} {ld : Nat → Int} {nm : Int → Int} (hW : cs_W I L R Y K P V te q ld nm) (hf : ¬ I 11 11 = 0) : yi_P zi_Ms d 271 [.inr (.inr (some 11)), .inl lo, .inl hi] (I, L, R, Y) (fun r => ∃ z, r = (some (.inl z), (I, L, R, Y), 0, 0)) := by
  refine yi_P_of (M := zi_m271) rfl (fun d k => ?_)
  show yi_D zi_Ms d zi_m271 k (0, [(0, .inr (.inr (some 11))), (1, .inl lo), (2, .inl hi)], [], (I, L, R, Y), 0, 0) _
  refine yi_D_run 1 (1, [(0, .inr (.inr (some 11))), (1, .inl lo), (2, .inl hi)], [.inr (.inr (some 11))], (I, L, R, Y), 0, 0) (fun _ => rfl) ?_
  refine yi_D_gl (v := L 11 10) rfl rfl rfl rfl (fun _ => ?_)
  refine yi_D_run 3 (7, [(3, .inl (yi_w (L 11 10))), (0, .inr (.inr (some 11))), (1, .inl lo), (2, .inl hi)], [.inr (.inr (some 11))], (I, L, R, Y), 0, 0) (fun _ => rfl) ?_
  refine yi_D_gi (v := I 11 9) rfl rfl rfl rfl (fun _ => ?_)
  refine yi_D_run 1 (11, [(3, .inl (yi_w (L 11 10))), (0, .inr (.inr (some 11))), (1, .inl lo), (2, .inl hi)], [.inl 2, .inl (I 11 9)], (I, L, R, Y), 0, 0) (fun _ => rfl) ?_
  by_cases h1 : (I 11 9) = 2
  · refine yi_D_if2 true rfl (yi_eq_t h1) ?_
    refine yi_D_run 2 (24, [(3, .inl (yi_w (L 11 10))), (0, .inr (.inr (some 11))), (1, .inl lo), (2, .inl hi)], [.inl lo, .inl (yi_w (L 11 10))], (I, L, R, Y), 0, 0) (fun _ => rfl) ?_
    by_cases h2 : (yi_w (L 11 10)) < lo
    · refine yi_D_if2 true rfl (yi_lt_t h2) ?_
      refine yi_D_run 2 (34, [(3, .inl (yi_w (L 11 10))), (0, .inr (.inr (some 11))), (1, .inl lo), (2, .inl hi)], [.inl 4, .inr (.inr (some 11))], (I, L, R, Y), 0, 0) (fun _ => rfl) ?_
      refine yi_D_callv rfl (p_wrong_f hW hf) ?_
      rintro _ rfl
      show yi_D zi_Ms d zi_m271 k (37, [(3, .inl (yi_w (L 11 10))), (0, .inr (.inr (some 11))), (1, .inl lo), (2, .inl hi)], [], (I, L, R, Y), 0, 0) _
      refine yi_D_run 1 (38, [(3, .inl (yi_w (L 11 10))), (0, .inr (.inr (some 11))), (1, .inl lo), (2, .inl hi)], [.inr (.inr (some 11))], (I, L, R, Y), 0, 0) (fun _ => rfl) ?_
      refine yi_D_callv rfl (p_advance_f hW hf) ?_
      rintro _ rfl
      show yi_D zi_Ms d zi_m271 k (41, [(3, .inl (yi_w (L 11 10))), (0, .inr (.inr (some 11))), (1, .inl lo), (2, .inl hi)], [], (I, L, R, Y), 0, 0) _
      refine yi_D_run 1 (42, [(3, .inl (yi_w (L 11 10))), (0, .inr (.inr (some 11))), (1, .inl lo), (2, .inl hi)], [.inl (yi_w (L 11 10))], (I, L, R, Y), 0, 0) (fun _ => rfl) ?_
      refine yi_D_reti rfl ?_
      exact ⟨_, rfl⟩
    · refine yi_D_if2 false rfl (yi_lt_f h2) ?_
      refine yi_D_run 2 (29, [(3, .inl (yi_w (L 11 10))), (0, .inr (.inr (some 11))), (1, .inl lo), (2, .inl hi)], [.inl hi, .inl (yi_w (L 11 10))], (I, L, R, Y), 0, 0) (fun _ => rfl) ?_
      by_cases h3 : (yi_w (L 11 10)) ≤ hi
      · refine yi_D_if2 true rfl (yi_le_t h3) ?_
        refine yi_D_run 1 (38, [(3, .inl (yi_w (L 11 10))), (0, .inr (.inr (some 11))), (1, .inl lo), (2, .inl hi)], [.inr (.inr (some 11))], (I, L, R, Y), 0, 0) (fun _ => rfl) ?_
        refine yi_D_callv rfl (p_advance_f hW hf) ?_
        rintro _ rfl
        show yi_D zi_Ms d zi_m271 k (41, [(3, .inl (yi_w (L 11 10))), (0, .inr (.inr (some 11))), (1, .inl lo), (2, .inl hi)], [], (I, L, R, Y), 0, 0) _
        refine yi_D_run 1 (42, [(3, .inl (yi_w (L 11 10))), (0, .inr (.inr (some 11))), (1, .inl lo), (2, .inl hi)], [.inl (yi_w (L 11 10))], (I, L, R, Y), 0, 0) (fun _ => rfl) ?_
        refine yi_D_reti rfl ?_
        exact ⟨_, rfl⟩
      · refine yi_D_if2 false rfl (yi_le_f h3) ?_
        refine yi_D_run 2 (34, [(3, .inl (yi_w (L 11 10))), (0, .inr (.inr (some 11))), (1, .inl lo), (2, .inl hi)], [.inl 4, .inr (.inr (some 11))], (I, L, R, Y), 0, 0) (fun _ => rfl) ?_
        refine yi_D_callv rfl (p_wrong_f hW hf) ?_
        rintro _ rfl
        show yi_D zi_Ms d zi_m271 k (37, [(3, .inl (yi_w (L 11 10))), (0, .inr (.inr (some 11))), (1, .inl lo), (2, .inl hi)], [], (I, L, R, Y), 0, 0) _
        refine yi_D_run 1 (38, [(3, .inl (yi_w (L 11 10))), (0, .inr (.inr (some 11))), (1, .inl lo), (2, .inl hi)], [.inr (.inr (some 11))], (I, L, R, Y), 0, 0) (fun _ => rfl) ?_
        refine yi_D_callv rfl (p_advance_f hW hf) ?_
        rintro _ rfl
        show yi_D zi_Ms d zi_m271 k (41, [(3, .inl (yi_w (L 11 10))), (0, .inr (.inr (some 11))), (1, .inl lo), (2, .inl hi)], [], (I, L, R, Y), 0, 0) _
        refine yi_D_run 1 (42, [(3, .inl (yi_w (L 11 10))), (0, .inr (.inr (some 11))), (1, .inl lo), (2, .inl hi)], [.inl (yi_w (L 11 10))], (I, L, R, Y), 0, 0) (fun _ => rfl) ?_
        refine yi_D_reti rfl ?_
        exact ⟨_, rfl⟩
  · refine yi_D_if2 false rfl (yi_eq_f h1) ?_
    refine yi_D_run 2 (16, [(3, .inl (yi_w (L 11 10))), (0, .inr (.inr (some 11))), (1, .inl lo), (2, .inl hi)], [.inl 1, .inr (.inr (some 11))], (I, L, R, Y), 0, 0) (fun _ => rfl) ?_
    refine yi_D_callv rfl (p_wrong_f hW hf) ?_
    rintro _ rfl
    show yi_D zi_Ms d zi_m271 k (19, [(3, .inl (yi_w (L 11 10))), (0, .inr (.inr (some 11))), (1, .inl lo), (2, .inl hi)], [], (I, L, R, Y), 0, 0) _
    refine yi_D_run 2 (38, [(3, .inl (yi_w (L 11 10))), (0, .inr (.inr (some 11))), (1, .inl lo), (2, .inl hi)], [.inr (.inr (some 11))], (I, L, R, Y), 0, 0) (fun _ => rfl) ?_
    refine yi_D_callv rfl (p_advance_f hW hf) ?_
    rintro _ rfl
    show yi_D zi_Ms d zi_m271 k (41, [(3, .inl (yi_w (L 11 10))), (0, .inr (.inr (some 11))), (1, .inl lo), (2, .inl hi)], [], (I, L, R, Y), 0, 0) _
    refine yi_D_run 1 (42, [(3, .inl (yi_w (L 11 10))), (0, .inr (.inr (some 11))), (1, .inl lo), (2, .inl hi)], [.inl (yi_w (L 11 10))], (I, L, R, Y), 0, 0) (fun _ => rfl) ?_
    refine yi_D_reti rfl ?_
    exact ⟨_, rfl⟩
theorem p_find {d : Nat} {I L : Nat → Nat → Int} {R : Nat → Nat → Option Nat} {Y : (Nat → Nat) × (Nat → Nat) × Nat} {p : Nat} {n x : Int} (p0 : 10 ≤ p) (n0 : 0 ≤ n ∧ n ≤ (Y.2.1 p : Int) ∧ n ≤ 1000) : yi_P zi_Ms d 225 [.inr (.inr (some p)), .inl n, .inr (.inl x)] (I, L, R, Y) (fun r => ∃ z, r = (some (.inl z), (I, L, R, Y), 0, 0) ∧ cs_fd L p n x z) := by
  refine yi_P_of (M := zi_m225) rfl (fun d k => ?_)
  show yi_D zi_Ms d zi_m225 k (0, [(0, .inr (.inr (some p))), (1, .inl n), (2, .inr (.inl x))], [], (I, L, R, Y), 0, 0) _
  refine yi_D_run 2 (3, [(4, .inl 0), (0, .inr (.inr (some p))), (1, .inl n), (2, .inr (.inl x))], [], (I, L, R, Y), 0, 0) (fun _ => rfl) ?_
  have pt3 : ∀ j3, j3 ≤ k → ∀ (i : Int), (0 ≤ i ∧ i ≤ n) → (∀ j : Nat, (j : Int) < i → ¬ L p j = x) → yi_D zi_Ms d zi_m225 j3 (3, [(4, .inl i), (0, .inr (.inr (some p))), (1, .inl n), (2, .inr (.inl x))], [], (I, L, R, Y), 0, 0) (fun r => ∃ z, r = (some (.inl z), (I, L, R, Y), 0, 0) ∧ cs_fd L p n x z) := by
    intro j3
    induction j3 with
    | zero => intros; exact yi_D_0
    | succ j3 ih3 =>
    intro hk3 i i0 hn
    refine yi_D_run1 1 (6, [(4, .inl i), (0, .inr (.inr (some p))), (1, .inl n), (2, .inr (.inl x))], [.inl n, .inl i], (I, L, R, Y), 0, 0) (fun _ => rfl) ?_
    by_cases h1 : n ≤ i
    · refine yi_D_if2 true rfl (yi_ge_t h1) ?_
      refine yi_D_run 1 (35, [(4, .inl i), (0, .inr (.inr (some p))), (1, .inl n), (2, .inr (.inl x))], [.inl (-1)], (I, L, R, Y), 0, 0) (fun _ => rfl) ?_
      refine yi_D_reti rfl ?_
      exact ⟨_, rfl, Or.inl ⟨rfl, fun j hj => hn j (by omega)⟩⟩
    · refine yi_D_if2 false rfl (yi_ge_f h1) ?_
      refine yi_D_run 2 (12, [(4, .inl i), (0, .inr (.inr (some p))), (1, .inl n), (2, .inr (.inl x))], [.inr (.inr (some p)), .inl i], (I, L, R, Y), 0, 0) (fun _ => rfl) ?_
      refine yi_D_len (v := (Y.2.1 p : Int)) rfl (Nat.ble_eq_true_of_le (by omega)) rfl ?_
      have h2 : ¬ ((Y.2.1 p : Int) ≤ i) := by omega
      refine yi_D_if2 false rfl (yi_ge_f h2) ?_
      refine yi_D_run 2 (19, [(4, .inl i), (0, .inr (.inr (some p))), (1, .inl n), (2, .inr (.inl x))], [.inl i, .inr (.inr (some p))], (I, L, R, Y), 0, 0) (fun _ => rfl) ?_
      refine yi_D_ll (v := L p (i.toNat)) rfl (Nat.ble_eq_true_of_le (by omega)) rfl (fun _ _ => ?_)
      refine yi_D_run 2 (22, [(4, .inl i), (0, .inr (.inr (some p))), (1, .inl n), (2, .inr (.inl x))], [.inl (yi_lcmp (L p (i.toNat)) x)], (I, L, R, Y), 0, 0) (fun _ => rfl) ?_
      by_cases h3 : (L p (i.toNat)) = x
      · refine yi_D_if1 false rfl (yi_Lne_f h3) ?_
        refine yi_D_run 1 (27, [(4, .inl i), (0, .inr (.inr (some p))), (1, .inl n), (2, .inr (.inl x))], [.inl i], (I, L, R, Y), 0, 0) (fun _ => rfl) ?_
        refine yi_D_reti rfl ?_
        exact ⟨_, rfl, Or.inr ⟨by omega, by omega, by assumption⟩⟩
      · refine yi_D_if1 true rfl (yi_Lne_t h3) ?_
        refine yi_D_iinc [(4, .inl (i + 1)), (0, .inr (.inr (some p))), (1, .inl n), (2, .inr (.inl x))] rfl rfl rfl (by rw [show yi_w (i + 1) = i + 1 from (yi_wn (by omega) (by omega)).trans (by omega)]; rfl) ?_
        refine yi_D_run 1 (3, [(4, .inl (i + 1)), (0, .inr (.inr (some p))), (1, .inl n), (2, .inr (.inl x))], [], (I, L, R, Y), 0, 0) (fun _ => rfl) ?_
        exact yi_D_mono (ih3 (by omega) (i + 1) ⟨by omega, by omega⟩ (fun j hj => by by_cases e : (j : Int) = i; exact (by rw [show j = i.toNat by omega]; assumption); exact hn j (by omega))) (by omega)
  exact pt3 k (Nat.le_refl _) 0 ⟨by omega, by omega⟩ (fun j hj => by omega)
theorem p_takeName_z {d : Nat} {I L : Nat → Nat → Int} {R : Nat → Nat → Option Nat} {Y : (Nat → Nat) × (Nat → Nat) × Nat} {p : Nat} {n lo hi : Int} (p0 : 10 ≤ p) (n0 : 0 ≤ n ∧ n ≤ (Y.2.1 p : Int) ∧ n ≤ 1000) {K P V : Nat → Int} {te q a : Nat} {ld : Nat → Int} {nm : Int → Int} (hW : cs_W I L R Y K P V te q ld nm) (hf : I 11 11 = 0) (hA : cs_A I L K te a) (l0 : 0 ≤ lo) (hN : cs_N L p n nm lo hi) : yi_P zi_Ms d 269 [.inr (.inr (some 11)), .inr (.inr (some p)), .inl n] (I, L, R, Y) (fun r => (K a = 3 ∧ (lo ≤ nm (V a) ∧ nm (V a) ≤ hi) ∧ ∃ I' L', r = (some (.inl (nm (V a) - lo)), (I', L', R, Y), 0, 0) ∧ cs_G I L I' L' ∧ I' 11 11 = 0 ∧ cs_A I' L' K te (a + 1)) ∨ ((¬ K a = 3) ∧ ∃ z I' L', r = (some (.inl z), (I', L', R, Y), 0, 0) ∧ cs_G I L I' L' ∧ I' 11 11 = sp_f P a 1) ∨ ((K a = 3 ∧ ¬ (lo ≤ nm (V a) ∧ nm (V a) ≤ hi)) ∧ ∃ z I' L', r = (some (.inl z), (I', L', R, Y), 0, 0) ∧ cs_G I L I' L' ∧ I' 11 11 = sp_f P a 2)) := by
  refine yi_P_of (M := zi_m269) rfl (fun d k => ?_)
  have hp := hW.2.1.2.2.1 a hA.2.1
  show yi_D zi_Ms d zi_m269 k (0, [(0, .inr (.inr (some 11))), (1, .inr (.inr (some p))), (2, .inl n)], [], (I, L, R, Y), 0, 0) _
  refine yi_D_run 1 (1, [(0, .inr (.inr (some 11))), (1, .inr (.inr (some p))), (2, .inl n)], [.inr (.inr (some 11))], (I, L, R, Y), 0, 0) (fun _ => rfl) ?_
  refine yi_D_gi (v := K a) rfl rfl rfl hA.2.2.1 (fun _ => ?_)
  refine yi_D_run 1 (5, [(0, .inr (.inr (some 11))), (1, .inr (.inr (some p))), (2, .inl n)], [.inl 3, .inl (K a)], (I, L, R, Y), 0, 0) (fun _ => rfl) ?_
  by_cases h1 : (K a) = 3
  · refine yi_D_if2 false rfl (yi_ne_f h1) ?_
    refine yi_D_run 3 (11, [(0, .inr (.inr (some 11))), (1, .inr (.inr (some p))), (2, .inl n)], [.inr (.inr (some 11)), .inl n, .inr (.inr (some p))], (I, L, R, Y), 0, 0) (fun _ => rfl) ?_
    refine yi_D_gl (v := L 16 a) rfl rfl rfl hA.2.2.2 (fun _ => ?_)
    refine yi_D_calls rfl (p_find (by omega) ⟨by omega, by omega, by omega⟩) ?_
    rintro _ ⟨z2, rfl, hz3⟩
    show yi_D zi_Ms d zi_m269 k (17, [(0, .inr (.inr (some 11))), (1, .inr (.inr (some p))), (2, .inl n)], [.inl z2], (I, L, R, Y), 0, 0) _
    refine yi_D_run 4 (24, [(3, .inl z2), (0, .inr (.inr (some 11))), (1, .inr (.inr (some p))), (2, .inl n)], [.inl (-1), .inl z2], (I, L, R, Y), 0, 0) (fun _ => rfl) ?_
    have hq4 := cs_N_fd hN (hp.2.2.2.2.1 (by omega)) hz3
    have hq4b : (z2 = nm (V a) - lo ∧ lo ≤ nm (V a) ∧ nm (V a) ≤ hi) ∨ (z2 = -1 ∧ ¬ (lo ≤ nm (V a) ∧ nm (V a) ≤ hi)) := by
      by_cases hc : lo ≤ nm (V a) ∧ nm (V a) ≤ hi
      · rw [if_pos hc] at hq4; exact Or.inl ⟨hq4, hc⟩
      · rw [if_neg hc] at hq4; exact Or.inr ⟨hq4, hc⟩
    by_cases h5 : z2 = (-1)
    · refine yi_D_if2 false rfl (yi_ne_f h5) ?_
      refine yi_D_run 2 (29, [(3, .inl z2), (0, .inr (.inr (some 11))), (1, .inr (.inr (some p))), (2, .inl n)], [.inr (.inr (some 11)), .inr (.inr (some 11))], (I, L, R, Y), 0, 0) (fun _ => rfl) ?_
      refine yi_D_gi (v := K a) rfl rfl rfl hA.2.2.1 (fun _ => ?_)
      refine yi_D_run 1 (33, [(3, .inl z2), (0, .inr (.inr (some 11))), (1, .inr (.inr (some p))), (2, .inl n)], [.inl 3, .inl (K a), .inr (.inr (some 11))], (I, L, R, Y), 0, 0) (fun _ => rfl) ?_
      have h6 : (K a) = 3 := by omega
      refine yi_D_if2 false rfl (yi_ne_f h6) ?_
      refine yi_D_run 2 (41, [(3, .inl z2), (0, .inr (.inr (some 11))), (1, .inr (.inr (some p))), (2, .inl n)], [.inl 2, .inr (.inr (some 11))], (I, L, R, Y), 0, 0) (fun _ => rfl) ?_
      refine yi_D_callv rfl (p_wrong_z ⟨by omega, by omega⟩ hW hf hA) ?_
      rintro _ ⟨I7, rfl, hg8, he9⟩
      have hGw10 : cs_G I L I7 L := ⟨fun p k hp => hg8 p k (by omega), fun _ _ _ => rfl⟩
      have hW11 := cs_W_t hW (cs_G_F hGw10)
      have hF12 := (cs_G_F hGw10)
      have hG13 := hGw10
      have hz14 : ¬ sp_f P a 2 = 0 := sp_f_ne hW hA.2.1 (by omega)
      have hn15 : ¬ I7 11 11 = 0 := by rw [he9]; exact hz14
      show yi_D zi_Ms d zi_m269 k (44, [(3, .inl z2), (0, .inr (.inr (some 11))), (1, .inr (.inr (some p))), (2, .inl n)], [], (I7, L, R, Y), 0, 0) _
      refine yi_D_run 1 (45, [(3, .inl z2), (0, .inr (.inr (some 11))), (1, .inr (.inr (some p))), (2, .inl n)], [.inr (.inr (some 11))], (I7, L, R, Y), 0, 0) (fun _ => rfl) ?_
      refine yi_D_callv rfl (p_advance_f hW11 hn15) ?_
      rintro _ rfl
      show yi_D zi_Ms d zi_m269 k (48, [(3, .inl z2), (0, .inr (.inr (some 11))), (1, .inr (.inr (some p))), (2, .inl n)], [], (I7, L, R, Y), 0, 0) _
      refine yi_D_run 1 (49, [(3, .inl z2), (0, .inr (.inr (some 11))), (1, .inr (.inr (some p))), (2, .inl n)], [.inl z2], (I7, L, R, Y), 0, 0) (fun _ => rfl) ?_
      refine yi_D_reti rfl ?_
      first | exact Or.inr (Or.inl ⟨by omega, _, _, _, rfl, hG13, he9⟩) | exact Or.inr (Or.inr ⟨⟨by omega, by omega⟩, _, _, _, rfl, hG13, he9⟩)
    · refine yi_D_if2 true rfl (yi_ne_t h5) ?_
      refine yi_D_run 1 (45, [(3, .inl z2), (0, .inr (.inr (some 11))), (1, .inr (.inr (some p))), (2, .inl n)], [.inr (.inr (some 11))], (I, L, R, Y), 0, 0) (fun _ => rfl) ?_
      refine yi_D_callv rfl (p_advance_z hW hf hA) ?_
      rintro _ ⟨I16, L17, rfl, hGa18, hf19, hA20⟩
      rw [sp_nx_lt (cs_lt hW.2.1 hA.2.1 (by omega))] at hA20
      have hA20 : cs_A I16 L17 K te (a + 1) := hA20
      have hW21 := cs_W_t hW (cs_G_F hGa18)
      have hF22 := (cs_G_F hGa18)
      have hG23 := hGa18
      show yi_D zi_Ms d zi_m269 k (48, [(3, .inl z2), (0, .inr (.inr (some 11))), (1, .inr (.inr (some p))), (2, .inl n)], [], (I16, L17, R, Y), 0, 0) _
      refine yi_D_run 1 (49, [(3, .inl z2), (0, .inr (.inr (some 11))), (1, .inr (.inr (some p))), (2, .inl n)], [.inl z2], (I16, L17, R, Y), 0, 0) (fun _ => rfl) ?_
      refine yi_D_reti rfl ?_
      exact Or.inl ⟨by omega, by omega, _, _, by rw [show z2 = nm (V a) - lo by omega], hG23, hf19, hA20⟩
  · refine yi_D_if2 true rfl (yi_ne_t h1) ?_
    refine yi_D_run 4 (24, [(3, .inl (-1)), (0, .inr (.inr (some 11))), (1, .inr (.inr (some p))), (2, .inl n)], [.inl (-1), .inl (-1)], (I, L, R, Y), 0, 0) (fun _ => rfl) ?_
    
    refine yi_D_if2 false rfl (by decide) ?_
    refine yi_D_run 2 (29, [(3, .inl (-1)), (0, .inr (.inr (some 11))), (1, .inr (.inr (some p))), (2, .inl n)], [.inr (.inr (some 11)), .inr (.inr (some 11))], (I, L, R, Y), 0, 0) (fun _ => rfl) ?_
    refine yi_D_gi (v := K a) rfl rfl rfl hA.2.2.1 (fun _ => ?_)
    refine yi_D_run 1 (33, [(3, .inl (-1)), (0, .inr (.inr (some 11))), (1, .inr (.inr (some p))), (2, .inl n)], [.inl 3, .inl (K a), .inr (.inr (some 11))], (I, L, R, Y), 0, 0) (fun _ => rfl) ?_
    have h24 : ¬ ((K a) = 3) := by omega
    refine yi_D_if2 true rfl (yi_ne_t h24) ?_
    refine yi_D_run 1 (41, [(3, .inl (-1)), (0, .inr (.inr (some 11))), (1, .inr (.inr (some p))), (2, .inl n)], [.inl 1, .inr (.inr (some 11))], (I, L, R, Y), 0, 0) (fun _ => rfl) ?_
    refine yi_D_callv rfl (p_wrong_z ⟨by omega, by omega⟩ hW hf hA) ?_
    rintro _ ⟨I25, rfl, hg26, he27⟩
    have hGw28 : cs_G I L I25 L := ⟨fun p k hp => hg26 p k (by omega), fun _ _ _ => rfl⟩
    have hW29 := cs_W_t hW (cs_G_F hGw28)
    have hF30 := (cs_G_F hGw28)
    have hG31 := hGw28
    have hz32 : ¬ sp_f P a 1 = 0 := sp_f_ne hW hA.2.1 (by omega)
    have hn33 : ¬ I25 11 11 = 0 := by rw [he27]; exact hz32
    show yi_D zi_Ms d zi_m269 k (44, [(3, .inl (-1)), (0, .inr (.inr (some 11))), (1, .inr (.inr (some p))), (2, .inl n)], [], (I25, L, R, Y), 0, 0) _
    refine yi_D_run 1 (45, [(3, .inl (-1)), (0, .inr (.inr (some 11))), (1, .inr (.inr (some p))), (2, .inl n)], [.inr (.inr (some 11))], (I25, L, R, Y), 0, 0) (fun _ => rfl) ?_
    refine yi_D_callv rfl (p_advance_f hW29 hn33) ?_
    rintro _ rfl
    show yi_D zi_Ms d zi_m269 k (48, [(3, .inl (-1)), (0, .inr (.inr (some 11))), (1, .inr (.inr (some p))), (2, .inl n)], [], (I25, L, R, Y), 0, 0) _
    refine yi_D_run 1 (49, [(3, .inl (-1)), (0, .inr (.inr (some 11))), (1, .inr (.inr (some p))), (2, .inl n)], [.inl (-1)], (I25, L, R, Y), 0, 0) (fun _ => rfl) ?_
    refine yi_D_reti rfl ?_
    first | exact Or.inr (Or.inl ⟨by omega, _, _, _, rfl, hG31, he27⟩) | exact Or.inr (Or.inr ⟨⟨by omega, by omega⟩, _, _, _, rfl, hG31, he27⟩)
theorem p_takeName_f {d : Nat} {I L : Nat → Nat → Int} {R : Nat → Nat → Option Nat} {Y : (Nat → Nat) × (Nat → Nat) × Nat} {p : Nat} {n : Int} (p0 : 10 ≤ p) (n0 : 0 ≤ n ∧ n ≤ (Y.2.1 p : Int) ∧ n ≤ 1000) {K P V : Nat → Int} {te q : Nat} {ld : Nat → Int} {nm : Int → Int} (hW : cs_W I L R Y K P V te q ld nm) (hf : ¬ I 11 11 = 0) : yi_P zi_Ms d 269 [.inr (.inr (some 11)), .inr (.inr (some p)), .inl n] (I, L, R, Y) (fun r => ∃ z, r = (some (.inl z), (I, L, R, Y), 0, 0)) := by
  refine yi_P_of (M := zi_m269) rfl (fun d k => ?_)
  show yi_D zi_Ms d zi_m269 k (0, [(0, .inr (.inr (some 11))), (1, .inr (.inr (some p))), (2, .inl n)], [], (I, L, R, Y), 0, 0) _
  refine yi_D_run 1 (1, [(0, .inr (.inr (some 11))), (1, .inr (.inr (some p))), (2, .inl n)], [.inr (.inr (some 11))], (I, L, R, Y), 0, 0) (fun _ => rfl) ?_
  refine yi_D_gi (v := I 11 9) rfl rfl rfl rfl (fun _ => ?_)
  refine yi_D_run 1 (5, [(0, .inr (.inr (some 11))), (1, .inr (.inr (some p))), (2, .inl n)], [.inl 3, .inl (I 11 9)], (I, L, R, Y), 0, 0) (fun _ => rfl) ?_
  by_cases h1 : (I 11 9) = 3
  · refine yi_D_if2 false rfl (yi_ne_f h1) ?_
    refine yi_D_run 3 (11, [(0, .inr (.inr (some 11))), (1, .inr (.inr (some p))), (2, .inl n)], [.inr (.inr (some 11)), .inl n, .inr (.inr (some p))], (I, L, R, Y), 0, 0) (fun _ => rfl) ?_
    refine yi_D_gl (v := L 11 10) rfl rfl rfl rfl (fun _ => ?_)
    refine yi_D_calls rfl (p_find (by omega) ⟨by omega, by omega, by omega⟩) ?_
    rintro _ ⟨z2, rfl, hz3⟩
    show yi_D zi_Ms d zi_m269 k (17, [(0, .inr (.inr (some 11))), (1, .inr (.inr (some p))), (2, .inl n)], [.inl z2], (I, L, R, Y), 0, 0) _
    refine yi_D_run 4 (24, [(3, .inl z2), (0, .inr (.inr (some 11))), (1, .inr (.inr (some p))), (2, .inl n)], [.inl (-1), .inl z2], (I, L, R, Y), 0, 0) (fun _ => rfl) ?_
    by_cases h4 : z2 = (-1)
    · refine yi_D_if2 false rfl (yi_ne_f h4) ?_
      refine yi_D_run 2 (29, [(3, .inl z2), (0, .inr (.inr (some 11))), (1, .inr (.inr (some p))), (2, .inl n)], [.inr (.inr (some 11)), .inr (.inr (some 11))], (I, L, R, Y), 0, 0) (fun _ => rfl) ?_
      refine yi_D_gi (v := I 11 9) rfl rfl rfl rfl (fun _ => ?_)
      refine yi_D_run 1 (33, [(3, .inl z2), (0, .inr (.inr (some 11))), (1, .inr (.inr (some p))), (2, .inl n)], [.inl 3, .inl (I 11 9), .inr (.inr (some 11))], (I, L, R, Y), 0, 0) (fun _ => rfl) ?_
      have h5 : (I 11 9) = 3 := by omega
      refine yi_D_if2 false rfl (yi_ne_f h5) ?_
      refine yi_D_run 2 (41, [(3, .inl z2), (0, .inr (.inr (some 11))), (1, .inr (.inr (some p))), (2, .inl n)], [.inl 2, .inr (.inr (some 11))], (I, L, R, Y), 0, 0) (fun _ => rfl) ?_
      refine yi_D_callv rfl (p_wrong_f hW hf) ?_
      rintro _ rfl
      show yi_D zi_Ms d zi_m269 k (44, [(3, .inl z2), (0, .inr (.inr (some 11))), (1, .inr (.inr (some p))), (2, .inl n)], [], (I, L, R, Y), 0, 0) _
      refine yi_D_run 1 (45, [(3, .inl z2), (0, .inr (.inr (some 11))), (1, .inr (.inr (some p))), (2, .inl n)], [.inr (.inr (some 11))], (I, L, R, Y), 0, 0) (fun _ => rfl) ?_
      refine yi_D_callv rfl (p_advance_f hW hf) ?_
      rintro _ rfl
      show yi_D zi_Ms d zi_m269 k (48, [(3, .inl z2), (0, .inr (.inr (some 11))), (1, .inr (.inr (some p))), (2, .inl n)], [], (I, L, R, Y), 0, 0) _
      refine yi_D_run 1 (49, [(3, .inl z2), (0, .inr (.inr (some 11))), (1, .inr (.inr (some p))), (2, .inl n)], [.inl z2], (I, L, R, Y), 0, 0) (fun _ => rfl) ?_
      refine yi_D_reti rfl ?_
      exact ⟨_, rfl⟩
    · refine yi_D_if2 true rfl (yi_ne_t h4) ?_
      refine yi_D_run 1 (45, [(3, .inl z2), (0, .inr (.inr (some 11))), (1, .inr (.inr (some p))), (2, .inl n)], [.inr (.inr (some 11))], (I, L, R, Y), 0, 0) (fun _ => rfl) ?_
      refine yi_D_callv rfl (p_advance_f hW hf) ?_
      rintro _ rfl
      show yi_D zi_Ms d zi_m269 k (48, [(3, .inl z2), (0, .inr (.inr (some 11))), (1, .inr (.inr (some p))), (2, .inl n)], [], (I, L, R, Y), 0, 0) _
      refine yi_D_run 1 (49, [(3, .inl z2), (0, .inr (.inr (some 11))), (1, .inr (.inr (some p))), (2, .inl n)], [.inl z2], (I, L, R, Y), 0, 0) (fun _ => rfl) ?_
      refine yi_D_reti rfl ?_
      exact ⟨_, rfl⟩
  · refine yi_D_if2 true rfl (yi_ne_t h1) ?_
    refine yi_D_run 4 (24, [(3, .inl (-1)), (0, .inr (.inr (some 11))), (1, .inr (.inr (some p))), (2, .inl n)], [.inl (-1), .inl (-1)], (I, L, R, Y), 0, 0) (fun _ => rfl) ?_
    refine yi_D_if2 false rfl (by decide) ?_
    refine yi_D_run 2 (29, [(3, .inl (-1)), (0, .inr (.inr (some 11))), (1, .inr (.inr (some p))), (2, .inl n)], [.inr (.inr (some 11)), .inr (.inr (some 11))], (I, L, R, Y), 0, 0) (fun _ => rfl) ?_
    refine yi_D_gi (v := I 11 9) rfl rfl rfl rfl (fun _ => ?_)
    refine yi_D_run 1 (33, [(3, .inl (-1)), (0, .inr (.inr (some 11))), (1, .inr (.inr (some p))), (2, .inl n)], [.inl 3, .inl (I 11 9), .inr (.inr (some 11))], (I, L, R, Y), 0, 0) (fun _ => rfl) ?_
    have h6 : ¬ ((I 11 9) = 3) := by omega
    refine yi_D_if2 true rfl (yi_ne_t h6) ?_
    refine yi_D_run 1 (41, [(3, .inl (-1)), (0, .inr (.inr (some 11))), (1, .inr (.inr (some p))), (2, .inl n)], [.inl 1, .inr (.inr (some 11))], (I, L, R, Y), 0, 0) (fun _ => rfl) ?_
    refine yi_D_callv rfl (p_wrong_f hW hf) ?_
    rintro _ rfl
    show yi_D zi_Ms d zi_m269 k (44, [(3, .inl (-1)), (0, .inr (.inr (some 11))), (1, .inr (.inr (some p))), (2, .inl n)], [], (I, L, R, Y), 0, 0) _
    refine yi_D_run 1 (45, [(3, .inl (-1)), (0, .inr (.inr (some 11))), (1, .inr (.inr (some p))), (2, .inl n)], [.inr (.inr (some 11))], (I, L, R, Y), 0, 0) (fun _ => rfl) ?_
    refine yi_D_callv rfl (p_advance_f hW hf) ?_
    rintro _ rfl
    show yi_D zi_Ms d zi_m269 k (48, [(3, .inl (-1)), (0, .inr (.inr (some 11))), (1, .inr (.inr (some p))), (2, .inl n)], [], (I, L, R, Y), 0, 0) _
    refine yi_D_run 1 (49, [(3, .inl (-1)), (0, .inr (.inr (some 11))), (1, .inr (.inr (some p))), (2, .inl n)], [.inl (-1)], (I, L, R, Y), 0, 0) (fun _ => rfl) ?_
    refine yi_D_reti rfl ?_
    exact ⟨_, rfl⟩
