/-! The check reader: names told, clauses. -/
theorem q_find_z {d : Nat} {I L : Nat → Nat → Int} {R : Nat → Nat → Option Nat} {Y : (Nat → Nat) × (Nat → Nat) × Nat} {K P V : Nat → Int} {te b a : Nat} {ld : Nat → Int} {nm : Int → Int} (hW : mt_W I L R Y K P V te b ld nm) (hf : I 82 8 = 0) (hA : mt_A I te a) (hk : K a = 3) : yi_P zi_Ms d 26 [.inr (.inr (some 82))] (I, L, R, Y) (fun r => r = (some (.inl (nm (V a))), (I, L, R, Y), 0, 0)) := by
  rcases hW.2.2.1.2 with ⟨e, _⟩ | ⟨e, _⟩
  · subst e
    exact q_find_50 hW hf hA hk
  · subst e
    exact q_find_0 hW hf hA hk
theorem mt_nmb {I L : Nat → Nat → Int} {R : Nat → Nat → Option Nat} {Y : (Nat → Nat) × (Nat → Nat) × Nat} {K P V : Nat → Int} {te b : Nat} {ld : Nat → Int} {nm : Int → Int} (hW : mt_W I L R Y K P V te b ld nm) (v : Int) : -1 ≤ nm v ∧ nm v ≤ 12 := by
  have key : ∀ (pn po : Nat) (m : Int), mt_N I L pn po m nm → -1 ≤ nm v ∧ nm v ≤ 12 := by
    intro pn po m h
    by_cases c : ∃ k : Nat, (k : Int) < m ∧ L pn k = v
    · obtain ⟨k, h1, h2⟩ := c
      have z := h.2.1 k h1
      rw [h2] at z
      omega
    · have z := h.2.2 v (fun k hk e => c ⟨k, hk, e⟩)
      omega
  rcases hW.2.2.1.2 with ⟨_, h⟩ | ⟨_, h⟩
  · exact key _ _ _ h
  · exact key _ _ _ h
/-- what codes leave -/
def mt_E (I I' : Nat → Nat → Int) : Prop := (∀ p k, ¬ (p = 89 ∧ 1100 ≤ k) ∧ ¬ (p = 90 ∧ 1100 ≤ k) ∧ ¬ (p = 82 ∧ k = 13) → I' p k = I p k) ∧ (0 ≤ I 82 13 ∧ I 82 13 ≤ 1100 → 0 ≤ I' 82 13 ∧ I' 82 13 ≤ 1100)
theorem mt_E_F {I I' : Nat → Nat → Int} (h : mt_E I I') : mt_F I I' := ⟨fun p k a => h.1 p k (by omega), h.2⟩
theorem q_within {d : Nat} {I L : Nat → Nat → Int} {R : Nat → Nat → Option Nat} {Y : (Nat → Nat) × (Nat → Nat) × Nat} {v lo hi : Int} : yi_P zi_Ms d 131 [.inl v, .inl lo, .inl hi] (I, L, R, Y) (fun r => ((lo ≤ v ∧ v ≤ hi) ∧ r = (some (.inl 1), (I, L, R, Y), 0, 0)) ∨ (¬ (lo ≤ v ∧ v ≤ hi) ∧ r = (some (.inl 0), (I, L, R, Y), 0, 0))) := by
  refine yi_P_of (M := zi_m131) rfl (fun d k => ?_)
  show yi_D zi_Ms d zi_m131 k (0, [(0, .inl v), (1, .inl lo), (2, .inl hi)], [], (I, L, R, Y), 0, 0) _
  refine yi_D_run 2 (2, [(0, .inl v), (1, .inl lo), (2, .inl hi)], [.inl lo, .inl v], (I, L, R, Y), 0, 0) (fun _ => rfl) ?_
  by_cases h1 : v < lo
  · refine yi_D_if2 true rfl (yi_lt_t h1) ?_
    refine yi_D_run 1 (15, [(0, .inl v), (1, .inl lo), (2, .inl hi)], [.inl 0], (I, L, R, Y), 0, 0) (fun _ => rfl) ?_
    refine yi_D_reti rfl ?_
    exact Or.inr ⟨by omega, rfl⟩
  · refine yi_D_if2 false rfl (yi_lt_f h1) ?_
    refine yi_D_run 2 (7, [(0, .inl v), (1, .inl lo), (2, .inl hi)], [.inl hi, .inl v], (I, L, R, Y), 0, 0) (fun _ => rfl) ?_
    by_cases h2 : hi < v
    · refine yi_D_if2 true rfl (yi_gt_t h2) ?_
      refine yi_D_run 1 (15, [(0, .inl v), (1, .inl lo), (2, .inl hi)], [.inl 0], (I, L, R, Y), 0, 0) (fun _ => rfl) ?_
      refine yi_D_reti rfl ?_
      exact Or.inr ⟨by omega, rfl⟩
    · refine yi_D_if2 false rfl (yi_gt_f h2) ?_
      refine yi_D_run 2 (15, [(0, .inl v), (1, .inl lo), (2, .inl hi)], [.inl 1], (I, L, R, Y), 0, 0) (fun _ => rfl) ?_
      refine yi_D_reti rfl ?_
      exact Or.inl ⟨by omega, rfl⟩
theorem q_takeTold0_z {d : Nat} {I L : Nat → Nat → Int} {R : Nat → Nat → Option Nat} {Y : (Nat → Nat) × (Nat → Nat) × Nat} {bt : Int} {K P V : Nat → Int} {te b a : Nat} {ld : Nat → Int} {nm : Int → Int} (hW : mt_W I L R Y K P V te b ld nm) (hf : I 82 8 = 0) (hA : mt_A I te a) : yi_P zi_Ms d 119 [.inr (.inr (some 82)), .inl 0, .inl bt] (I, L, R, Y) (fun r => (K a = 3 ∧ (0 ≤ nm (V a) ∧ nm (V a) ≤ 3) ∧ (¬ nm (V a) - 0 = bt) ∧ ∃ I', r = (some (.inl (nm (V a) - 0)), (I', L, R, Y), 0, 0) ∧ mt_G I I' ∧ I' 82 8 = 0 ∧ mt_A I' te (a + 1)) ∨ (¬ K a = 3 ∧ ∃ z I', r = (some (.inl z), (I', L, R, Y), 0, 0) ∧ mt_G I I' ∧ I' 82 8 = sp_f P a 1) ∨ ((K a = 3 ∧ ¬ (0 ≤ nm (V a) ∧ nm (V a) ≤ 3)) ∧ ∃ z I', r = (some (.inl z), (I', L, R, Y), 0, 0) ∧ mt_G I I' ∧ I' 82 8 = sp_f P a 2) ∨ ((K a = 3 ∧ (0 ≤ nm (V a) ∧ nm (V a) ≤ 3) ∧ nm (V a) - 0 = bt) ∧ ∃ z I', r = (some (.inl z), (I', L, R, Y), 0, 0) ∧ mt_G I I' ∧ I' 82 8 = sp_f P a 3)) := by
  refine yi_P_of (M := zi_m119) rfl (fun d k => ?_)
  have hS := hW.1
  have ht := hW.2.1.1
  have ha := hA.2
  have hp := hW.2.1.2.1 a hA.2
  have hnb := mt_nmb hW (V a)
  show yi_D zi_Ms d zi_m119 k (0, [(0, .inr (.inr (some 82))), (1, .inl 0), (2, .inl bt)], [], (I, L, R, Y), 0, 0) _
  refine yi_D_run 1 (1, [(0, .inr (.inr (some 82))), (1, .inl 0), (2, .inl bt)], [.inr (.inr (some 82))], (I, L, R, Y), 0, 0) (fun _ => rfl) ?_
  refine yi_D_gi (v := 0) rfl rfl rfl hf (fun _ => ?_)
  refine yi_D_if1 false rfl (by decide) ?_
  refine yi_D_run 1 (8, [(0, .inr (.inr (some 82))), (1, .inl 0), (2, .inl bt)], [.inr (.inr (some 82))], (I, L, R, Y), 0, 0) (fun _ => rfl) ?_
  refine yi_D_callv rfl (q_isName_z hW hf hA) ?_
  rintro _ (⟨c1, rfl⟩ | ⟨c1, rfl⟩)
  · show yi_D zi_Ms d zi_m119 k (11, [(0, .inr (.inr (some 82))), (1, .inl 0), (2, .inl bt)], [.inl 1], (I, L, R, Y), 0, 0) _
    refine yi_D_if1 true rfl (by decide) ?_
    refine yi_D_run 1 (20, [(0, .inr (.inr (some 82))), (1, .inl 0), (2, .inl bt)], [.inr (.inr (some 82))], (I, L, R, Y), 0, 0) (fun _ => rfl) ?_
    refine yi_D_gi (v := 0) rfl rfl rfl hf (fun _ => ?_)
    refine yi_D_if1 true rfl (by decide) ?_
    refine yi_D_run 1 (29, [(0, .inr (.inr (some 82))), (1, .inl 0), (2, .inl bt)], [.inr (.inr (some 82))], (I, L, R, Y), 0, 0) (fun _ => rfl) ?_
    refine yi_D_callv rfl (q_find_z hW hf hA (by omega)) ?_
    rintro _ rfl
    show yi_D zi_Ms d zi_m119 k (32, [(0, .inr (.inr (some 82))), (1, .inl 0), (2, .inl bt)], [.inl (nm (V a))], (I, L, R, Y), 0, 0) _
    refine yi_D_run 3 (35, [(3, .inl (nm (V a))), (0, .inr (.inr (some 82))), (1, .inl 0), (2, .inl bt)], [.inl 2, .inl 0], (I, L, R, Y), 0, 0) (fun _ => rfl) ?_
    refine yi_D_if2 true rfl (by decide) ?_
    refine yi_D_run 2 (45, [(3, .inl (nm (V a))), (0, .inr (.inr (some 82))), (1, .inl 0), (2, .inl bt)], [.inl 0, .inl 4], (I, L, R, Y), 0, 0) (fun _ => rfl) ?_
    refine yi_D_imul rfl (0) (by decide) ?_
    refine yi_D_run 3 (50, [(4, .inl 0), (3, .inl (nm (V a))), (0, .inr (.inr (some 82))), (1, .inl 0), (2, .inl bt)], [.inl 2, .inl 0], (I, L, R, Y), 0, 0) (fun _ => rfl) ?_
    refine yi_D_if2 true rfl (by decide) ?_
    refine yi_D_run 2 (61, [(4, .inl 0), (3, .inl (nm (V a))), (0, .inr (.inr (some 82))), (1, .inl 0), (2, .inl bt)], [.inl 3, .inl 0], (I, L, R, Y), 0, 0) (fun _ => rfl) ?_
    refine yi_D_iadd rfl (3) (by decide) ?_
    refine yi_D_run 4 (69, [(5, .inl 3), (4, .inl 0), (3, .inl (nm (V a))), (0, .inr (.inr (some 82))), (1, .inl 0), (2, .inl bt)], [.inl 3, .inl 0, .inl (nm (V a))], (I, L, R, Y), 0, 0) (fun _ => rfl) ?_
    refine yi_D_calls rfl (q_within) ?_
    rintro _ (⟨c2, rfl⟩ | ⟨c2, rfl⟩)
    · show yi_D zi_Ms d zi_m119 k (72, [(5, .inl 3), (4, .inl 0), (3, .inl (nm (V a))), (0, .inr (.inr (some 82))), (1, .inl 0), (2, .inl bt)], [.inl 1], (I, L, R, Y), 0, 0) _
      refine yi_D_if1 true rfl (by decide) ?_
      refine yi_D_run 2 (86, [(5, .inl 3), (4, .inl 0), (3, .inl (nm (V a))), (0, .inr (.inr (some 82))), (1, .inl 0), (2, .inl bt)], [.inl 0, .inl (nm (V a))], (I, L, R, Y), 0, 0) (fun _ => rfl) ?_
      refine yi_D_isub rfl ((nm (V a)) - 0) (yi_wn (by omega) (by omega)) ?_
      refine yi_D_run 1 (88, [(5, .inl 3), (4, .inl 0), (3, .inl (nm (V a))), (0, .inr (.inr (some 82))), (1, .inl 0), (2, .inl bt)], [.inl bt, .inl ((nm (V a)) - 0)], (I, L, R, Y), 0, 0) (fun _ => rfl) ?_
      by_cases h3 : ((nm (V a)) - 0) = bt
      · refine yi_D_if2 false rfl (yi_ne_f h3) ?_
        refine yi_D_run 2 (93, [(5, .inl 3), (4, .inl 0), (3, .inl (nm (V a))), (0, .inr (.inr (some 82))), (1, .inl 0), (2, .inl bt)], [.inl 3, .inr (.inr (some 82))], (I, L, R, Y), 0, 0) (fun _ => rfl) ?_
        refine yi_D_callv rfl (q_wrong_z ⟨by omega, by omega⟩ hW hf hA) ?_
        rintro _ ⟨I4, rfl, hg5, he6⟩
        have hGw7 : mt_G I I4 := fun p k hp => hg5 p k (by omega)
        have hW8 := mt_W_t hW (mt_G_F hGw7)
        have hF9 := (mt_G_F hGw7)
        have hG10 := hGw7
        have hz11 : 0 < sp_f P a 3 := mt_f_ne hW hA.2 (by omega)
        have hn12 : 0 < I4 82 8 := by rw [he6]; exact hz11
        show yi_D zi_Ms d zi_m119 k (96, [(5, .inl 3), (4, .inl 0), (3, .inl (nm (V a))), (0, .inr (.inr (some 82))), (1, .inl 0), (2, .inl bt)], [], (I4, L, R, Y), 0, 0) _
        refine yi_D_run 2 (98, [(5, .inl 3), (4, .inl 0), (3, .inl (nm (V a))), (0, .inr (.inr (some 82))), (1, .inl 0), (2, .inl bt)], [.inr (.inr (some 82)), .inr (.inr (some 82))], (I4, L, R, Y), 0, 0) (fun _ => rfl) ?_
        refine yi_D_gi (v := I4 82 7) rfl rfl rfl rfl (fun _ => ?_)
        refine yi_D_run 1 (102, [(5, .inl 3), (4, .inl 0), (3, .inl (nm (V a))), (0, .inr (.inr (some 82))), (1, .inl 0), (2, .inl bt)], [.inr (.inr (some 82)), .inl (I4 82 7), .inr (.inr (some 82))], (I4, L, R, Y), 0, 0) (fun _ => rfl) ?_
        refine yi_D_gi (v := I4 82 8) rfl rfl rfl rfl (fun _ => ?_)
        have h13 : ¬ ((I4 82 8) ≤ 0) := by omega
        refine yi_D_if1 false rfl (yi_le_f h13) ?_
        refine yi_D_run 3 (114, [(5, .inl 3), (4, .inl 0), (3, .inl (nm (V a))), (0, .inr (.inr (some 82))), (1, .inl 0), (2, .inl bt)], [.inl (yi_w ((I4 82 7) + 0)), .inr (.inr (some 82))], (I4, L, R, Y), 0, 0) (fun _ => rfl) ?_
        refine yi_D_pi rfl (fun _ => ?_)
        generalize w15 : yi_u I4 82 7 (yi_w ((I4 82 7) + 0)) = I14
        have hGn16 : mt_G I4 I14 := fun p k hp => by rw [← w15, yi_u_ne _ _ (by omega)]
        have hW17 := mt_W_t hW8 (mt_G_F hGn16)
        have hF18 := mt_F_t hF9 (mt_G_F hGn16)
        have hG19 := mt_G_t hG10 hGn16
        have hf20 : 0 < I14 82 8 := by rw [← w15, yi_u_ne _ _ (by omega)]; exact hn12
        have he21 : I14 82 8 = _ := (show I14 82 8 = I4 82 8 by rw [← w15, yi_u_ne _ _ (by omega)]).trans he6
        refine yi_D_run 3 (121, [(5, .inl 3), (4, .inl 0), (3, .inl (nm (V a))), (0, .inr (.inr (some 82))), (1, .inl 0), (2, .inl bt)], [.inl (yi_w ((nm (V a)) - 0))], (I14, L, R, Y), 0, 0) (fun _ => rfl) ?_
        refine yi_D_reti rfl ?_
        first
        | exact Or.inr (Or.inl ⟨by omega, _, _, rfl, hG19, he21⟩)
        | exact Or.inr (Or.inr (Or.inl ⟨⟨by omega, by omega⟩, _, _, rfl, hG19, he21⟩))
        | exact Or.inr (Or.inr (Or.inr ⟨⟨by omega, by omega, by omega⟩, _, _, rfl, hG19, he21⟩))
      · refine yi_D_if2 true rfl (yi_ne_t h3) ?_
        refine yi_D_run 2 (98, [(5, .inl 3), (4, .inl 0), (3, .inl (nm (V a))), (0, .inr (.inr (some 82))), (1, .inl 0), (2, .inl bt)], [.inr (.inr (some 82)), .inr (.inr (some 82))], (I, L, R, Y), 0, 0) (fun _ => rfl) ?_
        refine yi_D_gi (v := (a : Int)) rfl rfl rfl hA.1 (fun _ => ?_)
        refine yi_D_run 1 (102, [(5, .inl 3), (4, .inl 0), (3, .inl (nm (V a))), (0, .inr (.inr (some 82))), (1, .inl 0), (2, .inl bt)], [.inr (.inr (some 82)), .inl (a : Int), .inr (.inr (some 82))], (I, L, R, Y), 0, 0) (fun _ => rfl) ?_
        refine yi_D_gi (v := 0) rfl rfl rfl hf (fun _ => ?_)
        refine yi_D_if1 true rfl (by decide) ?_
        refine yi_D_run 1 (113, [(5, .inl 3), (4, .inl 0), (3, .inl (nm (V a))), (0, .inr (.inr (some 82))), (1, .inl 0), (2, .inl bt)], [.inl 1, .inl (a : Int), .inr (.inr (some 82))], (I, L, R, Y), 0, 0) (fun _ => rfl) ?_
        refine yi_D_iadd rfl ((a : Int) + 1) (yi_wn (by omega) (by omega)) ?_
        refine yi_D_pi rfl (fun _ => ?_)
        generalize w23 : yi_u I 82 7 ((a : Int) + 1) = I22
        have hGn24 : mt_G I I22 := fun p k hp => by rw [← w23, yi_u_ne _ _ (by omega)]
        have hW25 := mt_W_t hW (mt_G_F hGn24)
        have hF26 := (mt_G_F hGn24)
        have hG27 := hGn24
        have hf28 : I22 82 8 = 0 := by rw [← w23, yi_u_ne _ _ (by omega)]; exact hf
        have hA29 : mt_A I22 te (a + 1) := ⟨by rw [← w23, yi_u_eq]; omega, mt_lt hW25.2.1 hA.2 (by omega)⟩
        refine yi_D_run 2 (120, [(5, .inl 3), (4, .inl 0), (3, .inl (nm (V a))), (0, .inr (.inr (some 82))), (1, .inl 0), (2, .inl bt)], [.inl 0, .inl (nm (V a))], (I22, L, R, Y), 0, 0) (fun _ => rfl) ?_
        refine yi_D_isub rfl ((nm (V a)) - 0) (yi_wn (by omega) (by omega)) ?_
        refine yi_D_reti rfl ?_
        exact Or.inl ⟨by omega, ⟨by omega, by omega⟩, by omega, _, rfl, hG27, hf28, hA29⟩
    · show yi_D zi_Ms d zi_m119 k (72, [(5, .inl 3), (4, .inl 0), (3, .inl (nm (V a))), (0, .inr (.inr (some 82))), (1, .inl 0), (2, .inl bt)], [.inl 0], (I, L, R, Y), 0, 0) _
      refine yi_D_if1 false rfl (by decide) ?_
      refine yi_D_run 2 (77, [(5, .inl 3), (4, .inl 0), (3, .inl (nm (V a))), (0, .inr (.inr (some 82))), (1, .inl 0), (2, .inl bt)], [.inl 2, .inr (.inr (some 82))], (I, L, R, Y), 0, 0) (fun _ => rfl) ?_
      refine yi_D_callv rfl (q_wrong_z ⟨by omega, by omega⟩ hW hf hA) ?_
      rintro _ ⟨I30, rfl, hg31, he32⟩
      have hGw33 : mt_G I I30 := fun p k hp => hg31 p k (by omega)
      have hW34 := mt_W_t hW (mt_G_F hGw33)
      have hF35 := (mt_G_F hGw33)
      have hG36 := hGw33
      have hz37 : 0 < sp_f P a 2 := mt_f_ne hW hA.2 (by omega)
      have hn38 : 0 < I30 82 8 := by rw [he32]; exact hz37
      show yi_D zi_Ms d zi_m119 k (80, [(5, .inl 3), (4, .inl 0), (3, .inl (nm (V a))), (0, .inr (.inr (some 82))), (1, .inl 0), (2, .inl bt)], [], (I30, L, R, Y), 0, 0) _
      refine yi_D_run 3 (98, [(5, .inl 3), (4, .inl 0), (3, .inl (nm (V a))), (0, .inr (.inr (some 82))), (1, .inl 0), (2, .inl bt)], [.inr (.inr (some 82)), .inr (.inr (some 82))], (I30, L, R, Y), 0, 0) (fun _ => rfl) ?_
      refine yi_D_gi (v := I30 82 7) rfl rfl rfl rfl (fun _ => ?_)
      refine yi_D_run 1 (102, [(5, .inl 3), (4, .inl 0), (3, .inl (nm (V a))), (0, .inr (.inr (some 82))), (1, .inl 0), (2, .inl bt)], [.inr (.inr (some 82)), .inl (I30 82 7), .inr (.inr (some 82))], (I30, L, R, Y), 0, 0) (fun _ => rfl) ?_
      refine yi_D_gi (v := I30 82 8) rfl rfl rfl rfl (fun _ => ?_)
      have h39 : ¬ ((I30 82 8) ≤ 0) := by omega
      refine yi_D_if1 false rfl (yi_le_f h39) ?_
      refine yi_D_run 3 (114, [(5, .inl 3), (4, .inl 0), (3, .inl (nm (V a))), (0, .inr (.inr (some 82))), (1, .inl 0), (2, .inl bt)], [.inl (yi_w ((I30 82 7) + 0)), .inr (.inr (some 82))], (I30, L, R, Y), 0, 0) (fun _ => rfl) ?_
      refine yi_D_pi rfl (fun _ => ?_)
      generalize w41 : yi_u I30 82 7 (yi_w ((I30 82 7) + 0)) = I40
      have hGn42 : mt_G I30 I40 := fun p k hp => by rw [← w41, yi_u_ne _ _ (by omega)]
      have hW43 := mt_W_t hW34 (mt_G_F hGn42)
      have hF44 := mt_F_t hF35 (mt_G_F hGn42)
      have hG45 := mt_G_t hG36 hGn42
      have hf46 : 0 < I40 82 8 := by rw [← w41, yi_u_ne _ _ (by omega)]; exact hn38
      have he47 : I40 82 8 = _ := (show I40 82 8 = I30 82 8 by rw [← w41, yi_u_ne _ _ (by omega)]).trans he32
      refine yi_D_run 3 (121, [(5, .inl 3), (4, .inl 0), (3, .inl (nm (V a))), (0, .inr (.inr (some 82))), (1, .inl 0), (2, .inl bt)], [.inl (yi_w ((nm (V a)) - 0))], (I40, L, R, Y), 0, 0) (fun _ => rfl) ?_
      refine yi_D_reti rfl ?_
      first
      | exact Or.inr (Or.inl ⟨by omega, _, _, rfl, hG45, he47⟩)
      | exact Or.inr (Or.inr (Or.inl ⟨⟨by omega, by omega⟩, _, _, rfl, hG45, he47⟩))
      | exact Or.inr (Or.inr (Or.inr ⟨⟨by omega, by omega, by omega⟩, _, _, rfl, hG45, he47⟩))
  · show yi_D zi_Ms d zi_m119 k (11, [(0, .inr (.inr (some 82))), (1, .inl 0), (2, .inl bt)], [.inl 0], (I, L, R, Y), 0, 0) _
    refine yi_D_if1 false rfl (by decide) ?_
    refine yi_D_run 2 (16, [(0, .inr (.inr (some 82))), (1, .inl 0), (2, .inl bt)], [.inl 1, .inr (.inr (some 82))], (I, L, R, Y), 0, 0) (fun _ => rfl) ?_
    refine yi_D_callv rfl (q_wrong_z ⟨by omega, by omega⟩ hW hf hA) ?_
    rintro _ ⟨I48, rfl, hg49, he50⟩
    have hGw51 : mt_G I I48 := fun p k hp => hg49 p k (by omega)
    have hW52 := mt_W_t hW (mt_G_F hGw51)
    have hF53 := (mt_G_F hGw51)
    have hG54 := hGw51
    have hz55 : 0 < sp_f P a 1 := mt_f_ne hW hA.2 (by omega)
    have hn56 : 0 < I48 82 8 := by rw [he50]; exact hz55
    show yi_D zi_Ms d zi_m119 k (19, [(0, .inr (.inr (some 82))), (1, .inl 0), (2, .inl bt)], [], (I48, L, R, Y), 0, 0) _
    refine yi_D_run 1 (20, [(0, .inr (.inr (some 82))), (1, .inl 0), (2, .inl bt)], [.inr (.inr (some 82))], (I48, L, R, Y), 0, 0) (fun _ => rfl) ?_
    refine yi_D_gi (v := I48 82 8) rfl rfl rfl rfl (fun _ => ?_)
    have h57 : ¬ ((I48 82 8) ≤ 0) := by omega
    refine yi_D_if1 false rfl (yi_le_f h57) ?_
    refine yi_D_run 1 (27, [(0, .inr (.inr (some 82))), (1, .inl 0), (2, .inl bt)], [.inl 0], (I48, L, R, Y), 0, 0) (fun _ => rfl) ?_
    refine yi_D_reti rfl ?_
    first
    | exact Or.inr (Or.inl ⟨by omega, _, _, rfl, hG54, he50⟩)
    | exact Or.inr (Or.inr (Or.inl ⟨⟨by omega, by omega⟩, _, _, rfl, hG54, he50⟩))
    | exact Or.inr (Or.inr (Or.inr ⟨⟨by omega, by omega, by omega⟩, _, _, rfl, hG54, he50⟩))
theorem q_takeTold0_f {d : Nat} {I L : Nat → Nat → Int} {R : Nat → Nat → Option Nat} {Y : (Nat → Nat) × (Nat → Nat) × Nat} {bt : Int} {K P V : Nat → Int} {te b : Nat} {ld : Nat → Int} {nm : Int → Int} (hW : mt_W I L R Y K P V te b ld nm) (hf : 0 < I 82 8) : yi_P zi_Ms d 119 [.inr (.inr (some 82)), .inl 0, .inl bt] (I, L, R, Y) (fun r => ∃ z, r = (some (.inl z), (I, L, R, Y), 0, 0)) := by
  refine yi_P_of (M := zi_m119) rfl (fun d k => ?_)
  have hS := hW.1
  have hS2 := hS
  show yi_D zi_Ms d zi_m119 k (0, [(0, .inr (.inr (some 82))), (1, .inl 0), (2, .inl bt)], [], (I, L, R, Y), 0, 0) _
  refine yi_D_run 1 (1, [(0, .inr (.inr (some 82))), (1, .inl 0), (2, .inl bt)], [.inr (.inr (some 82))], (I, L, R, Y), 0, 0) (fun _ => rfl) ?_
  refine yi_D_gi (v := I 82 8) rfl rfl rfl rfl (fun _ => ?_)
  have h1 : ¬ ((I 82 8) = 0) := by omega
  refine yi_D_if1 true rfl (yi_ne_t h1) ?_
  refine yi_D_run 1 (20, [(0, .inr (.inr (some 82))), (1, .inl 0), (2, .inl bt)], [.inr (.inr (some 82))], (I, L, R, Y), 0, 0) (fun _ => rfl) ?_
  refine yi_D_gi (v := I 82 8) rfl rfl rfl rfl (fun _ => ?_)
  have h2 : ¬ ((I 82 8) ≤ 0) := by omega
  refine yi_D_if1 false rfl (yi_le_f h2) ?_
  refine yi_D_run 1 (27, [(0, .inr (.inr (some 82))), (1, .inl 0), (2, .inl bt)], [.inl 0], (I, L, R, Y), 0, 0) (fun _ => rfl) ?_
  refine yi_D_reti rfl ?_
  exact ⟨_, rfl⟩
theorem q_takeTold1_z {d : Nat} {I L : Nat → Nat → Int} {R : Nat → Nat → Option Nat} {Y : (Nat → Nat) × (Nat → Nat) × Nat} {bt : Int} {K P V : Nat → Int} {te b a : Nat} {ld : Nat → Int} {nm : Int → Int} (hW : mt_W I L R Y K P V te b ld nm) (hf : I 82 8 = 0) (hA : mt_A I te a) : yi_P zi_Ms d 119 [.inr (.inr (some 82)), .inl 1, .inl bt] (I, L, R, Y) (fun r => (K a = 3 ∧ (4 ≤ nm (V a) ∧ nm (V a) ≤ 7) ∧ (¬ nm (V a) - 4 = bt) ∧ ∃ I', r = (some (.inl (nm (V a) - 4)), (I', L, R, Y), 0, 0) ∧ mt_G I I' ∧ I' 82 8 = 0 ∧ mt_A I' te (a + 1)) ∨ (¬ K a = 3 ∧ ∃ z I', r = (some (.inl z), (I', L, R, Y), 0, 0) ∧ mt_G I I' ∧ I' 82 8 = sp_f P a 1) ∨ ((K a = 3 ∧ ¬ (4 ≤ nm (V a) ∧ nm (V a) ≤ 7)) ∧ ∃ z I', r = (some (.inl z), (I', L, R, Y), 0, 0) ∧ mt_G I I' ∧ I' 82 8 = sp_f P a 2) ∨ ((K a = 3 ∧ (4 ≤ nm (V a) ∧ nm (V a) ≤ 7) ∧ nm (V a) - 4 = bt) ∧ ∃ z I', r = (some (.inl z), (I', L, R, Y), 0, 0) ∧ mt_G I I' ∧ I' 82 8 = sp_f P a 3)) := by
  refine yi_P_of (M := zi_m119) rfl (fun d k => ?_)
  have hS := hW.1
  have ht := hW.2.1.1
  have ha := hA.2
  have hp := hW.2.1.2.1 a hA.2
  have hnb := mt_nmb hW (V a)
  show yi_D zi_Ms d zi_m119 k (0, [(0, .inr (.inr (some 82))), (1, .inl 1), (2, .inl bt)], [], (I, L, R, Y), 0, 0) _
  refine yi_D_run 1 (1, [(0, .inr (.inr (some 82))), (1, .inl 1), (2, .inl bt)], [.inr (.inr (some 82))], (I, L, R, Y), 0, 0) (fun _ => rfl) ?_
  refine yi_D_gi (v := 0) rfl rfl rfl hf (fun _ => ?_)
  refine yi_D_if1 false rfl (by decide) ?_
  refine yi_D_run 1 (8, [(0, .inr (.inr (some 82))), (1, .inl 1), (2, .inl bt)], [.inr (.inr (some 82))], (I, L, R, Y), 0, 0) (fun _ => rfl) ?_
  refine yi_D_callv rfl (q_isName_z hW hf hA) ?_
  rintro _ (⟨c1, rfl⟩ | ⟨c1, rfl⟩)
  · show yi_D zi_Ms d zi_m119 k (11, [(0, .inr (.inr (some 82))), (1, .inl 1), (2, .inl bt)], [.inl 1], (I, L, R, Y), 0, 0) _
    refine yi_D_if1 true rfl (by decide) ?_
    refine yi_D_run 1 (20, [(0, .inr (.inr (some 82))), (1, .inl 1), (2, .inl bt)], [.inr (.inr (some 82))], (I, L, R, Y), 0, 0) (fun _ => rfl) ?_
    refine yi_D_gi (v := 0) rfl rfl rfl hf (fun _ => ?_)
    refine yi_D_if1 true rfl (by decide) ?_
    refine yi_D_run 1 (29, [(0, .inr (.inr (some 82))), (1, .inl 1), (2, .inl bt)], [.inr (.inr (some 82))], (I, L, R, Y), 0, 0) (fun _ => rfl) ?_
    refine yi_D_callv rfl (q_find_z hW hf hA (by omega)) ?_
    rintro _ rfl
    show yi_D zi_Ms d zi_m119 k (32, [(0, .inr (.inr (some 82))), (1, .inl 1), (2, .inl bt)], [.inl (nm (V a))], (I, L, R, Y), 0, 0) _
    refine yi_D_run 3 (35, [(3, .inl (nm (V a))), (0, .inr (.inr (some 82))), (1, .inl 1), (2, .inl bt)], [.inl 2, .inl 1], (I, L, R, Y), 0, 0) (fun _ => rfl) ?_
    refine yi_D_if2 true rfl (by decide) ?_
    refine yi_D_run 2 (45, [(3, .inl (nm (V a))), (0, .inr (.inr (some 82))), (1, .inl 1), (2, .inl bt)], [.inl 1, .inl 4], (I, L, R, Y), 0, 0) (fun _ => rfl) ?_
    refine yi_D_imul rfl (4) (by decide) ?_
    refine yi_D_run 3 (50, [(4, .inl 4), (3, .inl (nm (V a))), (0, .inr (.inr (some 82))), (1, .inl 1), (2, .inl bt)], [.inl 2, .inl 1], (I, L, R, Y), 0, 0) (fun _ => rfl) ?_
    refine yi_D_if2 true rfl (by decide) ?_
    refine yi_D_run 2 (61, [(4, .inl 4), (3, .inl (nm (V a))), (0, .inr (.inr (some 82))), (1, .inl 1), (2, .inl bt)], [.inl 3, .inl 4], (I, L, R, Y), 0, 0) (fun _ => rfl) ?_
    refine yi_D_iadd rfl (7) (by decide) ?_
    refine yi_D_run 4 (69, [(5, .inl 7), (4, .inl 4), (3, .inl (nm (V a))), (0, .inr (.inr (some 82))), (1, .inl 1), (2, .inl bt)], [.inl 7, .inl 4, .inl (nm (V a))], (I, L, R, Y), 0, 0) (fun _ => rfl) ?_
    refine yi_D_calls rfl (q_within) ?_
    rintro _ (⟨c2, rfl⟩ | ⟨c2, rfl⟩)
    · show yi_D zi_Ms d zi_m119 k (72, [(5, .inl 7), (4, .inl 4), (3, .inl (nm (V a))), (0, .inr (.inr (some 82))), (1, .inl 1), (2, .inl bt)], [.inl 1], (I, L, R, Y), 0, 0) _
      refine yi_D_if1 true rfl (by decide) ?_
      refine yi_D_run 2 (86, [(5, .inl 7), (4, .inl 4), (3, .inl (nm (V a))), (0, .inr (.inr (some 82))), (1, .inl 1), (2, .inl bt)], [.inl 4, .inl (nm (V a))], (I, L, R, Y), 0, 0) (fun _ => rfl) ?_
      refine yi_D_isub rfl ((nm (V a)) - 4) (yi_wn (by omega) (by omega)) ?_
      refine yi_D_run 1 (88, [(5, .inl 7), (4, .inl 4), (3, .inl (nm (V a))), (0, .inr (.inr (some 82))), (1, .inl 1), (2, .inl bt)], [.inl bt, .inl ((nm (V a)) - 4)], (I, L, R, Y), 0, 0) (fun _ => rfl) ?_
      by_cases h3 : ((nm (V a)) - 4) = bt
      · refine yi_D_if2 false rfl (yi_ne_f h3) ?_
        refine yi_D_run 2 (93, [(5, .inl 7), (4, .inl 4), (3, .inl (nm (V a))), (0, .inr (.inr (some 82))), (1, .inl 1), (2, .inl bt)], [.inl 3, .inr (.inr (some 82))], (I, L, R, Y), 0, 0) (fun _ => rfl) ?_
        refine yi_D_callv rfl (q_wrong_z ⟨by omega, by omega⟩ hW hf hA) ?_
        rintro _ ⟨I4, rfl, hg5, he6⟩
        have hGw7 : mt_G I I4 := fun p k hp => hg5 p k (by omega)
        have hW8 := mt_W_t hW (mt_G_F hGw7)
        have hF9 := (mt_G_F hGw7)
        have hG10 := hGw7
        have hz11 : 0 < sp_f P a 3 := mt_f_ne hW hA.2 (by omega)
        have hn12 : 0 < I4 82 8 := by rw [he6]; exact hz11
        show yi_D zi_Ms d zi_m119 k (96, [(5, .inl 7), (4, .inl 4), (3, .inl (nm (V a))), (0, .inr (.inr (some 82))), (1, .inl 1), (2, .inl bt)], [], (I4, L, R, Y), 0, 0) _
        refine yi_D_run 2 (98, [(5, .inl 7), (4, .inl 4), (3, .inl (nm (V a))), (0, .inr (.inr (some 82))), (1, .inl 1), (2, .inl bt)], [.inr (.inr (some 82)), .inr (.inr (some 82))], (I4, L, R, Y), 0, 0) (fun _ => rfl) ?_
        refine yi_D_gi (v := I4 82 7) rfl rfl rfl rfl (fun _ => ?_)
        refine yi_D_run 1 (102, [(5, .inl 7), (4, .inl 4), (3, .inl (nm (V a))), (0, .inr (.inr (some 82))), (1, .inl 1), (2, .inl bt)], [.inr (.inr (some 82)), .inl (I4 82 7), .inr (.inr (some 82))], (I4, L, R, Y), 0, 0) (fun _ => rfl) ?_
        refine yi_D_gi (v := I4 82 8) rfl rfl rfl rfl (fun _ => ?_)
        have h13 : ¬ ((I4 82 8) ≤ 0) := by omega
        refine yi_D_if1 false rfl (yi_le_f h13) ?_
        refine yi_D_run 3 (114, [(5, .inl 7), (4, .inl 4), (3, .inl (nm (V a))), (0, .inr (.inr (some 82))), (1, .inl 1), (2, .inl bt)], [.inl (yi_w ((I4 82 7) + 0)), .inr (.inr (some 82))], (I4, L, R, Y), 0, 0) (fun _ => rfl) ?_
        refine yi_D_pi rfl (fun _ => ?_)
        generalize w15 : yi_u I4 82 7 (yi_w ((I4 82 7) + 0)) = I14
        have hGn16 : mt_G I4 I14 := fun p k hp => by rw [← w15, yi_u_ne _ _ (by omega)]
        have hW17 := mt_W_t hW8 (mt_G_F hGn16)
        have hF18 := mt_F_t hF9 (mt_G_F hGn16)
        have hG19 := mt_G_t hG10 hGn16
        have hf20 : 0 < I14 82 8 := by rw [← w15, yi_u_ne _ _ (by omega)]; exact hn12
        have he21 : I14 82 8 = _ := (show I14 82 8 = I4 82 8 by rw [← w15, yi_u_ne _ _ (by omega)]).trans he6
        refine yi_D_run 3 (121, [(5, .inl 7), (4, .inl 4), (3, .inl (nm (V a))), (0, .inr (.inr (some 82))), (1, .inl 1), (2, .inl bt)], [.inl (yi_w ((nm (V a)) - 4))], (I14, L, R, Y), 0, 0) (fun _ => rfl) ?_
        refine yi_D_reti rfl ?_
        first
        | exact Or.inr (Or.inl ⟨by omega, _, _, rfl, hG19, he21⟩)
        | exact Or.inr (Or.inr (Or.inl ⟨⟨by omega, by omega⟩, _, _, rfl, hG19, he21⟩))
        | exact Or.inr (Or.inr (Or.inr ⟨⟨by omega, by omega, by omega⟩, _, _, rfl, hG19, he21⟩))
      · refine yi_D_if2 true rfl (yi_ne_t h3) ?_
        refine yi_D_run 2 (98, [(5, .inl 7), (4, .inl 4), (3, .inl (nm (V a))), (0, .inr (.inr (some 82))), (1, .inl 1), (2, .inl bt)], [.inr (.inr (some 82)), .inr (.inr (some 82))], (I, L, R, Y), 0, 0) (fun _ => rfl) ?_
        refine yi_D_gi (v := (a : Int)) rfl rfl rfl hA.1 (fun _ => ?_)
        refine yi_D_run 1 (102, [(5, .inl 7), (4, .inl 4), (3, .inl (nm (V a))), (0, .inr (.inr (some 82))), (1, .inl 1), (2, .inl bt)], [.inr (.inr (some 82)), .inl (a : Int), .inr (.inr (some 82))], (I, L, R, Y), 0, 0) (fun _ => rfl) ?_
        refine yi_D_gi (v := 0) rfl rfl rfl hf (fun _ => ?_)
        refine yi_D_if1 true rfl (by decide) ?_
        refine yi_D_run 1 (113, [(5, .inl 7), (4, .inl 4), (3, .inl (nm (V a))), (0, .inr (.inr (some 82))), (1, .inl 1), (2, .inl bt)], [.inl 1, .inl (a : Int), .inr (.inr (some 82))], (I, L, R, Y), 0, 0) (fun _ => rfl) ?_
        refine yi_D_iadd rfl ((a : Int) + 1) (yi_wn (by omega) (by omega)) ?_
        refine yi_D_pi rfl (fun _ => ?_)
        generalize w23 : yi_u I 82 7 ((a : Int) + 1) = I22
        have hGn24 : mt_G I I22 := fun p k hp => by rw [← w23, yi_u_ne _ _ (by omega)]
        have hW25 := mt_W_t hW (mt_G_F hGn24)
        have hF26 := (mt_G_F hGn24)
        have hG27 := hGn24
        have hf28 : I22 82 8 = 0 := by rw [← w23, yi_u_ne _ _ (by omega)]; exact hf
        have hA29 : mt_A I22 te (a + 1) := ⟨by rw [← w23, yi_u_eq]; omega, mt_lt hW25.2.1 hA.2 (by omega)⟩
        refine yi_D_run 2 (120, [(5, .inl 7), (4, .inl 4), (3, .inl (nm (V a))), (0, .inr (.inr (some 82))), (1, .inl 1), (2, .inl bt)], [.inl 4, .inl (nm (V a))], (I22, L, R, Y), 0, 0) (fun _ => rfl) ?_
        refine yi_D_isub rfl ((nm (V a)) - 4) (yi_wn (by omega) (by omega)) ?_
        refine yi_D_reti rfl ?_
        exact Or.inl ⟨by omega, ⟨by omega, by omega⟩, by omega, _, rfl, hG27, hf28, hA29⟩
    · show yi_D zi_Ms d zi_m119 k (72, [(5, .inl 7), (4, .inl 4), (3, .inl (nm (V a))), (0, .inr (.inr (some 82))), (1, .inl 1), (2, .inl bt)], [.inl 0], (I, L, R, Y), 0, 0) _
      refine yi_D_if1 false rfl (by decide) ?_
      refine yi_D_run 2 (77, [(5, .inl 7), (4, .inl 4), (3, .inl (nm (V a))), (0, .inr (.inr (some 82))), (1, .inl 1), (2, .inl bt)], [.inl 2, .inr (.inr (some 82))], (I, L, R, Y), 0, 0) (fun _ => rfl) ?_
      refine yi_D_callv rfl (q_wrong_z ⟨by omega, by omega⟩ hW hf hA) ?_
      rintro _ ⟨I30, rfl, hg31, he32⟩
      have hGw33 : mt_G I I30 := fun p k hp => hg31 p k (by omega)
      have hW34 := mt_W_t hW (mt_G_F hGw33)
      have hF35 := (mt_G_F hGw33)
      have hG36 := hGw33
      have hz37 : 0 < sp_f P a 2 := mt_f_ne hW hA.2 (by omega)
      have hn38 : 0 < I30 82 8 := by rw [he32]; exact hz37
      show yi_D zi_Ms d zi_m119 k (80, [(5, .inl 7), (4, .inl 4), (3, .inl (nm (V a))), (0, .inr (.inr (some 82))), (1, .inl 1), (2, .inl bt)], [], (I30, L, R, Y), 0, 0) _
      refine yi_D_run 3 (98, [(5, .inl 7), (4, .inl 4), (3, .inl (nm (V a))), (0, .inr (.inr (some 82))), (1, .inl 1), (2, .inl bt)], [.inr (.inr (some 82)), .inr (.inr (some 82))], (I30, L, R, Y), 0, 0) (fun _ => rfl) ?_
      refine yi_D_gi (v := I30 82 7) rfl rfl rfl rfl (fun _ => ?_)
      refine yi_D_run 1 (102, [(5, .inl 7), (4, .inl 4), (3, .inl (nm (V a))), (0, .inr (.inr (some 82))), (1, .inl 1), (2, .inl bt)], [.inr (.inr (some 82)), .inl (I30 82 7), .inr (.inr (some 82))], (I30, L, R, Y), 0, 0) (fun _ => rfl) ?_
      refine yi_D_gi (v := I30 82 8) rfl rfl rfl rfl (fun _ => ?_)
      have h39 : ¬ ((I30 82 8) ≤ 0) := by omega
      refine yi_D_if1 false rfl (yi_le_f h39) ?_
      refine yi_D_run 3 (114, [(5, .inl 7), (4, .inl 4), (3, .inl (nm (V a))), (0, .inr (.inr (some 82))), (1, .inl 1), (2, .inl bt)], [.inl (yi_w ((I30 82 7) + 0)), .inr (.inr (some 82))], (I30, L, R, Y), 0, 0) (fun _ => rfl) ?_
      refine yi_D_pi rfl (fun _ => ?_)
      generalize w41 : yi_u I30 82 7 (yi_w ((I30 82 7) + 0)) = I40
      have hGn42 : mt_G I30 I40 := fun p k hp => by rw [← w41, yi_u_ne _ _ (by omega)]
      have hW43 := mt_W_t hW34 (mt_G_F hGn42)
      have hF44 := mt_F_t hF35 (mt_G_F hGn42)
      have hG45 := mt_G_t hG36 hGn42
      have hf46 : 0 < I40 82 8 := by rw [← w41, yi_u_ne _ _ (by omega)]; exact hn38
      have he47 : I40 82 8 = _ := (show I40 82 8 = I30 82 8 by rw [← w41, yi_u_ne _ _ (by omega)]).trans he32
      refine yi_D_run 3 (121, [(5, .inl 7), (4, .inl 4), (3, .inl (nm (V a))), (0, .inr (.inr (some 82))), (1, .inl 1), (2, .inl bt)], [.inl (yi_w ((nm (V a)) - 4))], (I40, L, R, Y), 0, 0) (fun _ => rfl) ?_
      refine yi_D_reti rfl ?_
      first
      | exact Or.inr (Or.inl ⟨by omega, _, _, rfl, hG45, he47⟩)
      | exact Or.inr (Or.inr (Or.inl ⟨⟨by omega, by omega⟩, _, _, rfl, hG45, he47⟩))
      | exact Or.inr (Or.inr (Or.inr ⟨⟨by omega, by omega, by omega⟩, _, _, rfl, hG45, he47⟩))
  · show yi_D zi_Ms d zi_m119 k (11, [(0, .inr (.inr (some 82))), (1, .inl 1), (2, .inl bt)], [.inl 0], (I, L, R, Y), 0, 0) _
    refine yi_D_if1 false rfl (by decide) ?_
    refine yi_D_run 2 (16, [(0, .inr (.inr (some 82))), (1, .inl 1), (2, .inl bt)], [.inl 1, .inr (.inr (some 82))], (I, L, R, Y), 0, 0) (fun _ => rfl) ?_
    refine yi_D_callv rfl (q_wrong_z ⟨by omega, by omega⟩ hW hf hA) ?_
    rintro _ ⟨I48, rfl, hg49, he50⟩
    have hGw51 : mt_G I I48 := fun p k hp => hg49 p k (by omega)
    have hW52 := mt_W_t hW (mt_G_F hGw51)
    have hF53 := (mt_G_F hGw51)
    have hG54 := hGw51
    have hz55 : 0 < sp_f P a 1 := mt_f_ne hW hA.2 (by omega)
    have hn56 : 0 < I48 82 8 := by rw [he50]; exact hz55
    show yi_D zi_Ms d zi_m119 k (19, [(0, .inr (.inr (some 82))), (1, .inl 1), (2, .inl bt)], [], (I48, L, R, Y), 0, 0) _
    refine yi_D_run 1 (20, [(0, .inr (.inr (some 82))), (1, .inl 1), (2, .inl bt)], [.inr (.inr (some 82))], (I48, L, R, Y), 0, 0) (fun _ => rfl) ?_
    refine yi_D_gi (v := I48 82 8) rfl rfl rfl rfl (fun _ => ?_)
    have h57 : ¬ ((I48 82 8) ≤ 0) := by omega
    refine yi_D_if1 false rfl (yi_le_f h57) ?_
    refine yi_D_run 1 (27, [(0, .inr (.inr (some 82))), (1, .inl 1), (2, .inl bt)], [.inl 0], (I48, L, R, Y), 0, 0) (fun _ => rfl) ?_
    refine yi_D_reti rfl ?_
    first
    | exact Or.inr (Or.inl ⟨by omega, _, _, rfl, hG54, he50⟩)
    | exact Or.inr (Or.inr (Or.inl ⟨⟨by omega, by omega⟩, _, _, rfl, hG54, he50⟩))
    | exact Or.inr (Or.inr (Or.inr ⟨⟨by omega, by omega, by omega⟩, _, _, rfl, hG54, he50⟩))
theorem q_takeTold1_f {d : Nat} {I L : Nat → Nat → Int} {R : Nat → Nat → Option Nat} {Y : (Nat → Nat) × (Nat → Nat) × Nat} {bt : Int} {K P V : Nat → Int} {te b : Nat} {ld : Nat → Int} {nm : Int → Int} (hW : mt_W I L R Y K P V te b ld nm) (hf : 0 < I 82 8) : yi_P zi_Ms d 119 [.inr (.inr (some 82)), .inl 1, .inl bt] (I, L, R, Y) (fun r => ∃ z, r = (some (.inl z), (I, L, R, Y), 0, 0)) := by
  refine yi_P_of (M := zi_m119) rfl (fun d k => ?_)
  have hS := hW.1
  have hS2 := hS
  show yi_D zi_Ms d zi_m119 k (0, [(0, .inr (.inr (some 82))), (1, .inl 1), (2, .inl bt)], [], (I, L, R, Y), 0, 0) _
  refine yi_D_run 1 (1, [(0, .inr (.inr (some 82))), (1, .inl 1), (2, .inl bt)], [.inr (.inr (some 82))], (I, L, R, Y), 0, 0) (fun _ => rfl) ?_
  refine yi_D_gi (v := I 82 8) rfl rfl rfl rfl (fun _ => ?_)
  have h1 : ¬ ((I 82 8) = 0) := by omega
  refine yi_D_if1 true rfl (yi_ne_t h1) ?_
  refine yi_D_run 1 (20, [(0, .inr (.inr (some 82))), (1, .inl 1), (2, .inl bt)], [.inr (.inr (some 82))], (I, L, R, Y), 0, 0) (fun _ => rfl) ?_
  refine yi_D_gi (v := I 82 8) rfl rfl rfl rfl (fun _ => ?_)
  have h2 : ¬ ((I 82 8) ≤ 0) := by omega
  refine yi_D_if1 false rfl (yi_le_f h2) ?_
  refine yi_D_run 1 (27, [(0, .inr (.inr (some 82))), (1, .inl 1), (2, .inl bt)], [.inl 0], (I, L, R, Y), 0, 0) (fun _ => rfl) ?_
  refine yi_D_reti rfl ?_
  exact ⟨_, rfl⟩
theorem q_takeTold2_z {d : Nat} {I L : Nat → Nat → Int} {R : Nat → Nat → Option Nat} {Y : (Nat → Nat) × (Nat → Nat) × Nat} {bt : Int} {K P V : Nat → Int} {te b a : Nat} {ld : Nat → Int} {nm : Int → Int} (hW : mt_W I L R Y K P V te b ld nm) (hf : I 82 8 = 0) (hA : mt_A I te a) : yi_P zi_Ms d 119 [.inr (.inr (some 82)), .inl 2, .inl bt] (I, L, R, Y) (fun r => (K a = 3 ∧ (8 ≤ nm (V a) ∧ nm (V a) ≤ 12) ∧ (¬ nm (V a) - 8 = bt) ∧ ∃ I', r = (some (.inl (nm (V a) - 8)), (I', L, R, Y), 0, 0) ∧ mt_G I I' ∧ I' 82 8 = 0 ∧ mt_A I' te (a + 1)) ∨ (¬ K a = 3 ∧ ∃ z I', r = (some (.inl z), (I', L, R, Y), 0, 0) ∧ mt_G I I' ∧ I' 82 8 = sp_f P a 1) ∨ ((K a = 3 ∧ ¬ (8 ≤ nm (V a) ∧ nm (V a) ≤ 12)) ∧ ∃ z I', r = (some (.inl z), (I', L, R, Y), 0, 0) ∧ mt_G I I' ∧ I' 82 8 = sp_f P a 2) ∨ ((K a = 3 ∧ (8 ≤ nm (V a) ∧ nm (V a) ≤ 12) ∧ nm (V a) - 8 = bt) ∧ ∃ z I', r = (some (.inl z), (I', L, R, Y), 0, 0) ∧ mt_G I I' ∧ I' 82 8 = sp_f P a 3)) := by
  refine yi_P_of (M := zi_m119) rfl (fun d k => ?_)
  have hS := hW.1
  have ht := hW.2.1.1
  have ha := hA.2
  have hp := hW.2.1.2.1 a hA.2
  have hnb := mt_nmb hW (V a)
  show yi_D zi_Ms d zi_m119 k (0, [(0, .inr (.inr (some 82))), (1, .inl 2), (2, .inl bt)], [], (I, L, R, Y), 0, 0) _
  refine yi_D_run 1 (1, [(0, .inr (.inr (some 82))), (1, .inl 2), (2, .inl bt)], [.inr (.inr (some 82))], (I, L, R, Y), 0, 0) (fun _ => rfl) ?_
  refine yi_D_gi (v := 0) rfl rfl rfl hf (fun _ => ?_)
  refine yi_D_if1 false rfl (by decide) ?_
  refine yi_D_run 1 (8, [(0, .inr (.inr (some 82))), (1, .inl 2), (2, .inl bt)], [.inr (.inr (some 82))], (I, L, R, Y), 0, 0) (fun _ => rfl) ?_
  refine yi_D_callv rfl (q_isName_z hW hf hA) ?_
  rintro _ (⟨c1, rfl⟩ | ⟨c1, rfl⟩)
  · show yi_D zi_Ms d zi_m119 k (11, [(0, .inr (.inr (some 82))), (1, .inl 2), (2, .inl bt)], [.inl 1], (I, L, R, Y), 0, 0) _
    refine yi_D_if1 true rfl (by decide) ?_
    refine yi_D_run 1 (20, [(0, .inr (.inr (some 82))), (1, .inl 2), (2, .inl bt)], [.inr (.inr (some 82))], (I, L, R, Y), 0, 0) (fun _ => rfl) ?_
    refine yi_D_gi (v := 0) rfl rfl rfl hf (fun _ => ?_)
    refine yi_D_if1 true rfl (by decide) ?_
    refine yi_D_run 1 (29, [(0, .inr (.inr (some 82))), (1, .inl 2), (2, .inl bt)], [.inr (.inr (some 82))], (I, L, R, Y), 0, 0) (fun _ => rfl) ?_
    refine yi_D_callv rfl (q_find_z hW hf hA (by omega)) ?_
    rintro _ rfl
    show yi_D zi_Ms d zi_m119 k (32, [(0, .inr (.inr (some 82))), (1, .inl 2), (2, .inl bt)], [.inl (nm (V a))], (I, L, R, Y), 0, 0) _
    refine yi_D_run 3 (35, [(3, .inl (nm (V a))), (0, .inr (.inr (some 82))), (1, .inl 2), (2, .inl bt)], [.inl 2, .inl 2], (I, L, R, Y), 0, 0) (fun _ => rfl) ?_
    refine yi_D_if2 false rfl (by decide) ?_
    refine yi_D_run 5 (50, [(4, .inl 8), (3, .inl (nm (V a))), (0, .inr (.inr (some 82))), (1, .inl 2), (2, .inl bt)], [.inl 2, .inl 2], (I, L, R, Y), 0, 0) (fun _ => rfl) ?_
    refine yi_D_if2 false rfl (by decide) ?_
    refine yi_D_run 6 (69, [(5, .inl 12), (4, .inl 8), (3, .inl (nm (V a))), (0, .inr (.inr (some 82))), (1, .inl 2), (2, .inl bt)], [.inl 12, .inl 8, .inl (nm (V a))], (I, L, R, Y), 0, 0) (fun _ => rfl) ?_
    refine yi_D_calls rfl (q_within) ?_
    rintro _ (⟨c2, rfl⟩ | ⟨c2, rfl⟩)
    · show yi_D zi_Ms d zi_m119 k (72, [(5, .inl 12), (4, .inl 8), (3, .inl (nm (V a))), (0, .inr (.inr (some 82))), (1, .inl 2), (2, .inl bt)], [.inl 1], (I, L, R, Y), 0, 0) _
      refine yi_D_if1 true rfl (by decide) ?_
      refine yi_D_run 2 (86, [(5, .inl 12), (4, .inl 8), (3, .inl (nm (V a))), (0, .inr (.inr (some 82))), (1, .inl 2), (2, .inl bt)], [.inl 8, .inl (nm (V a))], (I, L, R, Y), 0, 0) (fun _ => rfl) ?_
      refine yi_D_isub rfl ((nm (V a)) - 8) (yi_wn (by omega) (by omega)) ?_
      refine yi_D_run 1 (88, [(5, .inl 12), (4, .inl 8), (3, .inl (nm (V a))), (0, .inr (.inr (some 82))), (1, .inl 2), (2, .inl bt)], [.inl bt, .inl ((nm (V a)) - 8)], (I, L, R, Y), 0, 0) (fun _ => rfl) ?_
      by_cases h3 : ((nm (V a)) - 8) = bt
      · refine yi_D_if2 false rfl (yi_ne_f h3) ?_
        refine yi_D_run 2 (93, [(5, .inl 12), (4, .inl 8), (3, .inl (nm (V a))), (0, .inr (.inr (some 82))), (1, .inl 2), (2, .inl bt)], [.inl 3, .inr (.inr (some 82))], (I, L, R, Y), 0, 0) (fun _ => rfl) ?_
        refine yi_D_callv rfl (q_wrong_z ⟨by omega, by omega⟩ hW hf hA) ?_
        rintro _ ⟨I4, rfl, hg5, he6⟩
        have hGw7 : mt_G I I4 := fun p k hp => hg5 p k (by omega)
        have hW8 := mt_W_t hW (mt_G_F hGw7)
        have hF9 := (mt_G_F hGw7)
        have hG10 := hGw7
        have hz11 : 0 < sp_f P a 3 := mt_f_ne hW hA.2 (by omega)
        have hn12 : 0 < I4 82 8 := by rw [he6]; exact hz11
        show yi_D zi_Ms d zi_m119 k (96, [(5, .inl 12), (4, .inl 8), (3, .inl (nm (V a))), (0, .inr (.inr (some 82))), (1, .inl 2), (2, .inl bt)], [], (I4, L, R, Y), 0, 0) _
        refine yi_D_run 2 (98, [(5, .inl 12), (4, .inl 8), (3, .inl (nm (V a))), (0, .inr (.inr (some 82))), (1, .inl 2), (2, .inl bt)], [.inr (.inr (some 82)), .inr (.inr (some 82))], (I4, L, R, Y), 0, 0) (fun _ => rfl) ?_
        refine yi_D_gi (v := I4 82 7) rfl rfl rfl rfl (fun _ => ?_)
        refine yi_D_run 1 (102, [(5, .inl 12), (4, .inl 8), (3, .inl (nm (V a))), (0, .inr (.inr (some 82))), (1, .inl 2), (2, .inl bt)], [.inr (.inr (some 82)), .inl (I4 82 7), .inr (.inr (some 82))], (I4, L, R, Y), 0, 0) (fun _ => rfl) ?_
        refine yi_D_gi (v := I4 82 8) rfl rfl rfl rfl (fun _ => ?_)
        have h13 : ¬ ((I4 82 8) ≤ 0) := by omega
        refine yi_D_if1 false rfl (yi_le_f h13) ?_
        refine yi_D_run 3 (114, [(5, .inl 12), (4, .inl 8), (3, .inl (nm (V a))), (0, .inr (.inr (some 82))), (1, .inl 2), (2, .inl bt)], [.inl (yi_w ((I4 82 7) + 0)), .inr (.inr (some 82))], (I4, L, R, Y), 0, 0) (fun _ => rfl) ?_
        refine yi_D_pi rfl (fun _ => ?_)
        generalize w15 : yi_u I4 82 7 (yi_w ((I4 82 7) + 0)) = I14
        have hGn16 : mt_G I4 I14 := fun p k hp => by rw [← w15, yi_u_ne _ _ (by omega)]
        have hW17 := mt_W_t hW8 (mt_G_F hGn16)
        have hF18 := mt_F_t hF9 (mt_G_F hGn16)
        have hG19 := mt_G_t hG10 hGn16
        have hf20 : 0 < I14 82 8 := by rw [← w15, yi_u_ne _ _ (by omega)]; exact hn12
        have he21 : I14 82 8 = _ := (show I14 82 8 = I4 82 8 by rw [← w15, yi_u_ne _ _ (by omega)]).trans he6
        refine yi_D_run 3 (121, [(5, .inl 12), (4, .inl 8), (3, .inl (nm (V a))), (0, .inr (.inr (some 82))), (1, .inl 2), (2, .inl bt)], [.inl (yi_w ((nm (V a)) - 8))], (I14, L, R, Y), 0, 0) (fun _ => rfl) ?_
        refine yi_D_reti rfl ?_
        first
        | exact Or.inr (Or.inl ⟨by omega, _, _, rfl, hG19, he21⟩)
        | exact Or.inr (Or.inr (Or.inl ⟨⟨by omega, by omega⟩, _, _, rfl, hG19, he21⟩))
        | exact Or.inr (Or.inr (Or.inr ⟨⟨by omega, by omega, by omega⟩, _, _, rfl, hG19, he21⟩))
      · refine yi_D_if2 true rfl (yi_ne_t h3) ?_
        refine yi_D_run 2 (98, [(5, .inl 12), (4, .inl 8), (3, .inl (nm (V a))), (0, .inr (.inr (some 82))), (1, .inl 2), (2, .inl bt)], [.inr (.inr (some 82)), .inr (.inr (some 82))], (I, L, R, Y), 0, 0) (fun _ => rfl) ?_
        refine yi_D_gi (v := (a : Int)) rfl rfl rfl hA.1 (fun _ => ?_)
        refine yi_D_run 1 (102, [(5, .inl 12), (4, .inl 8), (3, .inl (nm (V a))), (0, .inr (.inr (some 82))), (1, .inl 2), (2, .inl bt)], [.inr (.inr (some 82)), .inl (a : Int), .inr (.inr (some 82))], (I, L, R, Y), 0, 0) (fun _ => rfl) ?_
        refine yi_D_gi (v := 0) rfl rfl rfl hf (fun _ => ?_)
        refine yi_D_if1 true rfl (by decide) ?_
        refine yi_D_run 1 (113, [(5, .inl 12), (4, .inl 8), (3, .inl (nm (V a))), (0, .inr (.inr (some 82))), (1, .inl 2), (2, .inl bt)], [.inl 1, .inl (a : Int), .inr (.inr (some 82))], (I, L, R, Y), 0, 0) (fun _ => rfl) ?_
        refine yi_D_iadd rfl ((a : Int) + 1) (yi_wn (by omega) (by omega)) ?_
        refine yi_D_pi rfl (fun _ => ?_)
        generalize w23 : yi_u I 82 7 ((a : Int) + 1) = I22
        have hGn24 : mt_G I I22 := fun p k hp => by rw [← w23, yi_u_ne _ _ (by omega)]
        have hW25 := mt_W_t hW (mt_G_F hGn24)
        have hF26 := (mt_G_F hGn24)
        have hG27 := hGn24
        have hf28 : I22 82 8 = 0 := by rw [← w23, yi_u_ne _ _ (by omega)]; exact hf
        have hA29 : mt_A I22 te (a + 1) := ⟨by rw [← w23, yi_u_eq]; omega, mt_lt hW25.2.1 hA.2 (by omega)⟩
        refine yi_D_run 2 (120, [(5, .inl 12), (4, .inl 8), (3, .inl (nm (V a))), (0, .inr (.inr (some 82))), (1, .inl 2), (2, .inl bt)], [.inl 8, .inl (nm (V a))], (I22, L, R, Y), 0, 0) (fun _ => rfl) ?_
        refine yi_D_isub rfl ((nm (V a)) - 8) (yi_wn (by omega) (by omega)) ?_
        refine yi_D_reti rfl ?_
        exact Or.inl ⟨by omega, ⟨by omega, by omega⟩, by omega, _, rfl, hG27, hf28, hA29⟩
    · show yi_D zi_Ms d zi_m119 k (72, [(5, .inl 12), (4, .inl 8), (3, .inl (nm (V a))), (0, .inr (.inr (some 82))), (1, .inl 2), (2, .inl bt)], [.inl 0], (I, L, R, Y), 0, 0) _
      refine yi_D_if1 false rfl (by decide) ?_
      refine yi_D_run 2 (77, [(5, .inl 12), (4, .inl 8), (3, .inl (nm (V a))), (0, .inr (.inr (some 82))), (1, .inl 2), (2, .inl bt)], [.inl 2, .inr (.inr (some 82))], (I, L, R, Y), 0, 0) (fun _ => rfl) ?_
      refine yi_D_callv rfl (q_wrong_z ⟨by omega, by omega⟩ hW hf hA) ?_
      rintro _ ⟨I30, rfl, hg31, he32⟩
      have hGw33 : mt_G I I30 := fun p k hp => hg31 p k (by omega)
      have hW34 := mt_W_t hW (mt_G_F hGw33)
      have hF35 := (mt_G_F hGw33)
      have hG36 := hGw33
      have hz37 : 0 < sp_f P a 2 := mt_f_ne hW hA.2 (by omega)
      have hn38 : 0 < I30 82 8 := by rw [he32]; exact hz37
      show yi_D zi_Ms d zi_m119 k (80, [(5, .inl 12), (4, .inl 8), (3, .inl (nm (V a))), (0, .inr (.inr (some 82))), (1, .inl 2), (2, .inl bt)], [], (I30, L, R, Y), 0, 0) _
      refine yi_D_run 3 (98, [(5, .inl 12), (4, .inl 8), (3, .inl (nm (V a))), (0, .inr (.inr (some 82))), (1, .inl 2), (2, .inl bt)], [.inr (.inr (some 82)), .inr (.inr (some 82))], (I30, L, R, Y), 0, 0) (fun _ => rfl) ?_
      refine yi_D_gi (v := I30 82 7) rfl rfl rfl rfl (fun _ => ?_)
      refine yi_D_run 1 (102, [(5, .inl 12), (4, .inl 8), (3, .inl (nm (V a))), (0, .inr (.inr (some 82))), (1, .inl 2), (2, .inl bt)], [.inr (.inr (some 82)), .inl (I30 82 7), .inr (.inr (some 82))], (I30, L, R, Y), 0, 0) (fun _ => rfl) ?_
      refine yi_D_gi (v := I30 82 8) rfl rfl rfl rfl (fun _ => ?_)
      have h39 : ¬ ((I30 82 8) ≤ 0) := by omega
      refine yi_D_if1 false rfl (yi_le_f h39) ?_
      refine yi_D_run 3 (114, [(5, .inl 12), (4, .inl 8), (3, .inl (nm (V a))), (0, .inr (.inr (some 82))), (1, .inl 2), (2, .inl bt)], [.inl (yi_w ((I30 82 7) + 0)), .inr (.inr (some 82))], (I30, L, R, Y), 0, 0) (fun _ => rfl) ?_
      refine yi_D_pi rfl (fun _ => ?_)
      generalize w41 : yi_u I30 82 7 (yi_w ((I30 82 7) + 0)) = I40
      have hGn42 : mt_G I30 I40 := fun p k hp => by rw [← w41, yi_u_ne _ _ (by omega)]
      have hW43 := mt_W_t hW34 (mt_G_F hGn42)
      have hF44 := mt_F_t hF35 (mt_G_F hGn42)
      have hG45 := mt_G_t hG36 hGn42
      have hf46 : 0 < I40 82 8 := by rw [← w41, yi_u_ne _ _ (by omega)]; exact hn38
      have he47 : I40 82 8 = _ := (show I40 82 8 = I30 82 8 by rw [← w41, yi_u_ne _ _ (by omega)]).trans he32
      refine yi_D_run 3 (121, [(5, .inl 12), (4, .inl 8), (3, .inl (nm (V a))), (0, .inr (.inr (some 82))), (1, .inl 2), (2, .inl bt)], [.inl (yi_w ((nm (V a)) - 8))], (I40, L, R, Y), 0, 0) (fun _ => rfl) ?_
      refine yi_D_reti rfl ?_
      first
      | exact Or.inr (Or.inl ⟨by omega, _, _, rfl, hG45, he47⟩)
      | exact Or.inr (Or.inr (Or.inl ⟨⟨by omega, by omega⟩, _, _, rfl, hG45, he47⟩))
      | exact Or.inr (Or.inr (Or.inr ⟨⟨by omega, by omega, by omega⟩, _, _, rfl, hG45, he47⟩))
  · show yi_D zi_Ms d zi_m119 k (11, [(0, .inr (.inr (some 82))), (1, .inl 2), (2, .inl bt)], [.inl 0], (I, L, R, Y), 0, 0) _
    refine yi_D_if1 false rfl (by decide) ?_
    refine yi_D_run 2 (16, [(0, .inr (.inr (some 82))), (1, .inl 2), (2, .inl bt)], [.inl 1, .inr (.inr (some 82))], (I, L, R, Y), 0, 0) (fun _ => rfl) ?_
    refine yi_D_callv rfl (q_wrong_z ⟨by omega, by omega⟩ hW hf hA) ?_
    rintro _ ⟨I48, rfl, hg49, he50⟩
    have hGw51 : mt_G I I48 := fun p k hp => hg49 p k (by omega)
    have hW52 := mt_W_t hW (mt_G_F hGw51)
    have hF53 := (mt_G_F hGw51)
    have hG54 := hGw51
    have hz55 : 0 < sp_f P a 1 := mt_f_ne hW hA.2 (by omega)
    have hn56 : 0 < I48 82 8 := by rw [he50]; exact hz55
    show yi_D zi_Ms d zi_m119 k (19, [(0, .inr (.inr (some 82))), (1, .inl 2), (2, .inl bt)], [], (I48, L, R, Y), 0, 0) _
    refine yi_D_run 1 (20, [(0, .inr (.inr (some 82))), (1, .inl 2), (2, .inl bt)], [.inr (.inr (some 82))], (I48, L, R, Y), 0, 0) (fun _ => rfl) ?_
    refine yi_D_gi (v := I48 82 8) rfl rfl rfl rfl (fun _ => ?_)
    have h57 : ¬ ((I48 82 8) ≤ 0) := by omega
    refine yi_D_if1 false rfl (yi_le_f h57) ?_
    refine yi_D_run 1 (27, [(0, .inr (.inr (some 82))), (1, .inl 2), (2, .inl bt)], [.inl 0], (I48, L, R, Y), 0, 0) (fun _ => rfl) ?_
    refine yi_D_reti rfl ?_
    first
    | exact Or.inr (Or.inl ⟨by omega, _, _, rfl, hG54, he50⟩)
    | exact Or.inr (Or.inr (Or.inl ⟨⟨by omega, by omega⟩, _, _, rfl, hG54, he50⟩))
    | exact Or.inr (Or.inr (Or.inr ⟨⟨by omega, by omega, by omega⟩, _, _, rfl, hG54, he50⟩))
theorem q_takeTold2_f {d : Nat} {I L : Nat → Nat → Int} {R : Nat → Nat → Option Nat} {Y : (Nat → Nat) × (Nat → Nat) × Nat} {bt : Int} {K P V : Nat → Int} {te b : Nat} {ld : Nat → Int} {nm : Int → Int} (hW : mt_W I L R Y K P V te b ld nm) (hf : 0 < I 82 8) : yi_P zi_Ms d 119 [.inr (.inr (some 82)), .inl 2, .inl bt] (I, L, R, Y) (fun r => ∃ z, r = (some (.inl z), (I, L, R, Y), 0, 0)) := by
  refine yi_P_of (M := zi_m119) rfl (fun d k => ?_)
  have hS := hW.1
  have hS2 := hS
  show yi_D zi_Ms d zi_m119 k (0, [(0, .inr (.inr (some 82))), (1, .inl 2), (2, .inl bt)], [], (I, L, R, Y), 0, 0) _
  refine yi_D_run 1 (1, [(0, .inr (.inr (some 82))), (1, .inl 2), (2, .inl bt)], [.inr (.inr (some 82))], (I, L, R, Y), 0, 0) (fun _ => rfl) ?_
  refine yi_D_gi (v := I 82 8) rfl rfl rfl rfl (fun _ => ?_)
  have h1 : ¬ ((I 82 8) = 0) := by omega
  refine yi_D_if1 true rfl (yi_ne_t h1) ?_
  refine yi_D_run 1 (20, [(0, .inr (.inr (some 82))), (1, .inl 2), (2, .inl bt)], [.inr (.inr (some 82))], (I, L, R, Y), 0, 0) (fun _ => rfl) ?_
  refine yi_D_gi (v := I 82 8) rfl rfl rfl rfl (fun _ => ?_)
  have h2 : ¬ ((I 82 8) ≤ 0) := by omega
  refine yi_D_if1 false rfl (yi_le_f h2) ?_
  refine yi_D_run 1 (27, [(0, .inr (.inr (some 82))), (1, .inl 2), (2, .inl bt)], [.inl 0], (I, L, R, Y), 0, 0) (fun _ => rfl) ?_
  refine yi_D_reti rfl ?_
  exact ⟨_, rfl⟩
theorem q_clause {d : Nat} {I L : Nat → Nat → Int} {R : Nat → Nat → Option Nat} {Y : (Nat → Nat) × (Nat → Nat) × Nat} {x0 x1 x2 x3 : Int} : yi_P zi_Ms d 10 [.inl x0, .inl x1, .inl x2, .inl x3] (I, L, R, Y) (fun r => ∃ z, r = (some (.inl z), (I, L, R, Y), 0, 0)) := by
  refine yi_P_of (M := zi_m10) rfl (fun d k => ?_)
  show yi_D zi_Ms d zi_m10 k (0, [(0, .inl x0), (1, .inl x1), (2, .inl x2), (3, .inl x3)], [], (I, L, R, Y), 0, 0) _
  refine yi_D_run 13 (15, [(0, .inl x0), (1, .inl x1), (2, .inl x2), (3, .inl x3)], [.inl (yi_w ((yi_w ((yi_w ((yi_w ((yi_w ((yi_w (x0 * 4)) + x1)) * 16)) + x2)) * 8)) + x3))], (I, L, R, Y), 0, 0) (fun _ => rfl) ?_
  refine yi_D_reti rfl ?_
  exact ⟨_, rfl⟩
theorem q_emit {d : Nat} {I L : Nat → Nat → Int} {R : Nat → Nat → Option Nat} {Y : (Nat → Nat) × (Nat → Nat) × Nat} {x y : Int} {K P V : Nat → Int} {te b : Nat} {ld : Nat → Int} {nm : Int → Int} (hW : mt_W I L R Y K P V te b ld nm) : yi_P zi_Ms d 21 [.inr (.inr (some 82)), .inl x, .inl y] (I, L, R, Y) (fun r => ∃ I', r = (none, (I', L, R, Y), 0, 0) ∧ mt_E I I') := by
  refine yi_P_of (M := zi_m21) rfl (fun d k => ?_)
  have hS := hW.1
  have hl89 := (ym_S_at hS (j := 6) rfl).2.2
  show yi_D zi_Ms d zi_m21 k (0, [(0, .inr (.inr (some 82))), (1, .inl x), (2, .inl y)], [], (I, L, R, Y), 0, 0) _
  refine yi_D_run 1 (1, [(0, .inr (.inr (some 82))), (1, .inl x), (2, .inl y)], [.inr (.inr (some 82))], (I, L, R, Y), 0, 0) (fun _ => rfl) ?_
  refine yi_D_gr (v := some 89) rfl rfl rfl (ym_S_at hS (j := 6) rfl).1 (fun _ => ?_)
  refine yi_D_run 2 (8, [(0, .inr (.inr (some 82))), (1, .inl x), (2, .inl y)], [.inr (.inr (some 82)), .inl 1100, .inr (.inr (some 89))], (I, L, R, Y), 0, 0) (fun _ => rfl) ?_
  refine yi_D_gi (v := I 82 13) rfl rfl rfl rfl (fun _ => ?_)
  refine yi_D_run 2 (13, [(0, .inr (.inr (some 82))), (1, .inl x), (2, .inl y)], [.inl x, .inl (yi_w (1100 + (I 82 13))), .inr (.inr (some 89))], (I, L, R, Y), 0, 0) (fun _ => rfl) ?_
  refine yi_D_is rfl (fun b1 b2 => ?_)
  generalize w4 : yi_u I 89 ((yi_w (1100 + (I 82 13))).toNat) x = I3
  refine yi_D_run 1 (15, [(0, .inr (.inr (some 82))), (1, .inl x), (2, .inl y)], [.inr (.inr (some 82))], (I3, L, R, Y), 0, 0) (fun _ => rfl) ?_
  refine yi_D_gr (v := some 90) rfl rfl rfl (ym_S_at hS (j := 7) rfl).1 (fun _ => ?_)
  refine yi_D_run 2 (22, [(0, .inr (.inr (some 82))), (1, .inl x), (2, .inl y)], [.inr (.inr (some 82)), .inl 1100, .inr (.inr (some 90))], (I3, L, R, Y), 0, 0) (fun _ => rfl) ?_
  have r5 : I3 82 13 = I 82 13 := by rw [← w4, yi_u_ne _ _ (by omega)]
  refine yi_D_gi (v := I 82 13) rfl rfl rfl r5 (fun _ => ?_)
  refine yi_D_run 2 (27, [(0, .inr (.inr (some 82))), (1, .inl x), (2, .inl y)], [.inl y, .inl (yi_w (1100 + (I 82 13))), .inr (.inr (some 90))], (I3, L, R, Y), 0, 0) (fun _ => rfl) ?_
  refine yi_D_is rfl (fun b6 b7 => ?_)
  generalize w9 : yi_u I3 90 ((yi_w (1100 + (I 82 13))).toNat) y = I8
  refine yi_D_run 2 (30, [(0, .inr (.inr (some 82))), (1, .inl x), (2, .inl y)], [.inr (.inr (some 82)), .inr (.inr (some 82))], (I8, L, R, Y), 0, 0) (fun _ => rfl) ?_
  have r10 : I8 82 13 = I 82 13 := by rw [← w9, yi_u_ne _ _ (by omega), ← w4, yi_u_ne _ _ (by omega)]
  refine yi_D_gi (v := I 82 13) rfl rfl rfl r10 (fun _ => ?_)
  refine yi_D_run 2 (35, [(0, .inr (.inr (some 82))), (1, .inl x), (2, .inl y)], [.inl (yi_w ((I 82 13) + 1)), .inr (.inr (some 82))], (I8, L, R, Y), 0, 0) (fun _ => rfl) ?_
  refine yi_D_pi rfl (fun _ => ?_)
  generalize w12 : yi_u I8 82 13 (yi_w ((I 82 13) + 1)) = I11
  refine yi_D_retv rfl ?_
  have hb13 : 0 ≤ I 82 13 ∧ I 82 13 ≤ 1100 := hW.2.2.2.2.2.2.2
  have hw00 : yi_w (1100 + I 82 13) = 1100 + I 82 13 := yi_wn (by omega) (by omega)
  refine ⟨_, rfl, fun p k hp => by rw [← w12, yi_u_ne _ _ (by omega), ← w9, yi_u_ne _ _ (by omega), ← w4, yi_u_ne _ _ (by omega)], fun hb => ?_⟩
  have hw0 : yi_w (1100 + I 82 13) = 1100 + I 82 13 := yi_wn (by omega) (by omega)
  have hw1 : yi_w (I 82 13 + 1) = I 82 13 + 1 := yi_wn (by omega) (by omega)
  rw [← w12, yi_u_eq]
  have hl89 : Y.2.1 89 = 2200 := hl89
  omega
theorem q_readClause {d : Nat} {I L : Nat → Nat → Int} {R : Nat → Nat → Option Nat} {Y : (Nat → Nat) × (Nat → Nat) × Nat} {K P V : Nat → Int} {te b a : Nat} {ld : Nat → Int} {nm : Int → Int} (hW : mt_W I L R Y K P V te b ld nm) (hf : I 82 8 = 0) (hA : mt_A I te a) (hk : K a = 3 ∨ K a = 14 ∨ K a = 15 ∨ K a = 16 ∨ K a = 17) (hn : K a = 3 → 0 ≤ nm (V a) ∧ nm (V a) ≤ 3) : yi_P zi_Ms d 94 [.inr (.inr (some 82))] (I, L, R, Y) (fun r => ∃ z I', r = (some (.inl z), (I', L, R, Y), 0, 0) ∧ mt_G I I' ∧ ((∃ a' x, sp_cl K P V ld nm a = .inl (a', x) ∧ I' 82 8 = 0 ∧ mt_A I' te a') ∨ (∃ f, sp_cl K P V ld nm a = .inr f ∧ 0 < f ∧ I' 82 8 = f))) := by
  refine yi_P_of (M := zi_m94) rfl (fun d k => ?_)
  have hS := hW.1
  have ht := hW.2.1.1
  have ha := hA.2
  have hp := hW.2.1.2.1 a hA.2
  have hd0 : I 88 (((b : Int) + 0).toNat) = ld 0 := by
    rw [show ((b : Int) + 0).toNat = b + 0 by omega]
    exact hW.2.2.2.1 0 (by omega)
  have hbb : b ≤ 50 := by rcases hW.2.2.1.2 with z | z <;> omega
  show yi_D zi_Ms d zi_m94 k (0, [(0, .inr (.inr (some 82)))], [], (I, L, R, Y), 0, 0) _
  refine yi_D_run 1 (1, [(0, .inr (.inr (some 82)))], [.inr (.inr (some 82))], (I, L, R, Y), 0, 0) (fun _ => rfl) ?_
  refine yi_D_gr (v := some 88) rfl rfl rfl (ym_S_at hS (j := 5) rfl).1 (fun _ => ?_)
  refine yi_D_run 1 (5, [(0, .inr (.inr (some 82)))], [.inr (.inr (some 82)), .inr (.inr (some 88))], (I, L, R, Y), 0, 0) (fun _ => rfl) ?_
  refine yi_D_gi (v := (b : Int)) rfl rfl rfl hW.2.2.1.1 (fun _ => ?_)
  refine yi_D_run 1 (9, [(0, .inr (.inr (some 82)))], [.inl 0, .inl (b : Int), .inr (.inr (some 88))], (I, L, R, Y), 0, 0) (fun _ => rfl) ?_
  refine yi_D_iadd rfl ((b : Int) + 0) (yi_wn (by omega) (by omega)) ?_
  refine yi_D_il (v := ld 0) rfl rfl hd0 (fun _ _ => ?_)
  refine yi_D_run 3 (15, [(1, .inl (ld 0)), (0, .inr (.inr (some 82)))], [.inl 12, .inr (.inr (some 82))], (I, L, R, Y), 0, 0) (fun _ => rfl) ?_
  refine yi_D_callv rfl (q_isWord_z (by omega) (by omega) hW hf hA) ?_
  rintro _ (⟨c1, rfl⟩ | ⟨c1, rfl⟩)
  · show yi_D zi_Ms d zi_m94 k (18, [(1, .inl (ld 0)), (0, .inr (.inr (some 82)))], [.inl 1], (I, L, R, Y), 0, 0) _
    refine yi_D_if1 true rfl (by decide) ?_
    refine yi_D_run 2 (33, [(1, .inl (ld 0)), (0, .inr (.inr (some 82)))], [.inl 12, .inr (.inr (some 82))], (I, L, R, Y), 0, 0) (fun _ => rfl) ?_
    refine yi_D_callv rfl (q_isWord_z (by omega) (by omega) hW hf hA) ?_
    rintro _ (⟨c2, rfl⟩ | ⟨c2, rfl⟩)
    · show yi_D zi_Ms d zi_m94 k (36, [(1, .inl (ld 0)), (0, .inr (.inr (some 82)))], [.inl 1], (I, L, R, Y), 0, 0) _
      refine yi_D_if1 false rfl (by decide) ?_
      refine yi_D_run 5 (49, [(2, .inl 7), (1, .inl (ld 0)), (0, .inr (.inr (some 82)))], [.inr (.inr (some 82)), .inr (.inr (some 82))], (I, L, R, Y), 0, 0) (fun _ => rfl) ?_
      refine yi_D_gi (v := (a : Int)) rfl rfl rfl hA.1 (fun _ => ?_)
      refine yi_D_run 1 (53, [(2, .inl 7), (1, .inl (ld 0)), (0, .inr (.inr (some 82)))], [.inl 1, .inl (a : Int), .inr (.inr (some 82))], (I, L, R, Y), 0, 0) (fun _ => rfl) ?_
      refine yi_D_iadd rfl ((a : Int) + 1) (yi_wn (by omega) (by omega)) ?_
      refine yi_D_pi rfl (fun _ => ?_)
      generalize w4 : yi_u I 82 7 ((a : Int) + 1) = I3
      have hGn5 : mt_G I I3 := fun p k hp => by rw [← w4, yi_u_ne _ _ (by omega)]
      have hW6 := mt_W_t hW (mt_G_F hGn5)
      have hF7 := (mt_G_F hGn5)
      have hG8 := hGn5
      have hf9 : I3 82 8 = 0 := by rw [← w4, yi_u_ne _ _ (by omega)]; exact hf
      have hA10 : mt_A I3 te (a + 1) := ⟨by rw [← w4, yi_u_eq]; omega, mt_lt hW6.2.1 hA.2 (by omega)⟩
      refine yi_D_run 3 (60, [(2, .inl 7), (1, .inl (ld 0)), (0, .inr (.inr (some 82)))], [.inl (-1), .inl 0, .inr (.inr (some 82))], (I3, L, R, Y), 0, 0) (fun _ => rfl) ?_
      refine yi_D_callv rfl (q_takeTold0_z (bt := (-1)) hW6 hf9 hA10) ?_
      rintro _ (⟨c11, c12, c13, I14, rfl, hGa15, hf16, hA17⟩ | ⟨c18, z22, I19, rfl, hGa20, he21⟩ | ⟨c23, z27, I24, rfl, hGa25, he26⟩ | ⟨c28, z32, I29, rfl, hGa30, he31⟩)
      · have hA17 : mt_A I14 te (a + 2) := hA17
        have hW33 := mt_W_t hW6 (mt_G_F hGa15)
        have hF34 := mt_F_t hF7 (mt_G_F hGa15)
        have hG35 := mt_G_t hG8 hGa15
        show yi_D zi_Ms d zi_m94 k (63, [(2, .inl 7), (1, .inl (ld 0)), (0, .inr (.inr (some 82)))], [.inl (nm (V (a + 1)) - 0)], (I14, L, R, Y), 0, 0) _
        refine yi_D_run 4 (67, [(3, .inl (nm (V (a + 1)) - 0)), (2, .inl 7), (1, .inl (ld 0)), (0, .inr (.inr (some 82)))], [.inl (nm (V (a + 1)) - 0), .inl 0, .inr (.inr (some 82))], (I14, L, R, Y), 0, 0) (fun _ => rfl) ?_
        refine yi_D_callv rfl (q_takeTold0_z (bt := nm (V (a + 1)) - 0) hW33 hf16 hA17) ?_
        rintro _ (⟨c36, c37, c38, I39, rfl, hGa40, hf41, hA42⟩ | ⟨c43, z47, I44, rfl, hGa45, he46⟩ | ⟨c48, z52, I49, rfl, hGa50, he51⟩ | ⟨c53, z57, I54, rfl, hGa55, he56⟩)
        · have hA42 : mt_A I39 te (a + 3) := hA42
          have hW58 := mt_W_t hW33 (mt_G_F hGa40)
          have hF59 := mt_F_t hF34 (mt_G_F hGa40)
          have hG60 := mt_G_t hG35 hGa40
          show yi_D zi_Ms d zi_m94 k (70, [(3, .inl (nm (V (a + 1)) - 0)), (2, .inl 7), (1, .inl (ld 0)), (0, .inr (.inr (some 82)))], [.inl (nm (V (a + 2)) - 0)], (I39, L, R, Y), 0, 0) _
          refine yi_D_run 5 (76, [(4, .inl (nm (V (a + 2)) - 0)), (3, .inl (nm (V (a + 1)) - 0)), (2, .inl 7), (1, .inl (ld 0)), (0, .inr (.inr (some 82)))], [.inl (-1), .inl 1, .inr (.inr (some 82)), .inl (nm (V (a + 1)) - 0)], (I39, L, R, Y), 0, 0) (fun _ => rfl) ?_
          refine yi_D_callv rfl (q_takeTold1_z (bt := (-1)) hW58 hf41 hA42) ?_
          rintro _ (⟨c61, c62, c63, I64, rfl, hGa65, hf66, hA67⟩ | ⟨c68, z72, I69, rfl, hGa70, he71⟩ | ⟨c73, z77, I74, rfl, hGa75, he76⟩ | ⟨c78, z82, I79, rfl, hGa80, he81⟩)
          · have hA67 : mt_A I64 te (a + 4) := hA67
            have hW83 := mt_W_t hW58 (mt_G_F hGa65)
            have hF84 := mt_F_t hF59 (mt_G_F hGa65)
            have hG85 := mt_G_t hG60 hGa65
            show yi_D zi_Ms d zi_m94 k (79, [(4, .inl (nm (V (a + 2)) - 0)), (3, .inl (nm (V (a + 1)) - 0)), (2, .inl 7), (1, .inl (ld 0)), (0, .inr (.inr (some 82)))], [.inl (nm (V (a + 3)) - 4), .inl (nm (V (a + 1)) - 0)], (I64, L, R, Y), 0, 0) _
            refine yi_D_run 2 (82, [(4, .inl (nm (V (a + 2)) - 0)), (3, .inl (nm (V (a + 1)) - 0)), (2, .inl 7), (1, .inl (ld 0)), (0, .inr (.inr (some 82)))], [.inl (nm (V (a + 2)) - 0), .inl 7, .inl (nm (V (a + 3)) - 4), .inl (nm (V (a + 1)) - 0)], (I64, L, R, Y), 0, 0) (fun _ => rfl) ?_
            refine yi_D_calls rfl (q_clause) ?_
            rintro _ ⟨zc, rfl⟩
            show yi_D zi_Ms d zi_m94 k (85, [(4, .inl (nm (V (a + 2)) - 0)), (3, .inl (nm (V (a + 1)) - 0)), (2, .inl 7), (1, .inl (ld 0)), (0, .inr (.inr (some 82)))], [.inl zc], (I64, L, R, Y), 0, 0) _
            refine yi_D_reti rfl ?_
            first
            | (exfalso; omega)
            | (refine ⟨_, _, rfl, hG85, Or.inl ⟨_, sp_cc (nm (V (a + 1))) (nm (V (a + 3)) - 4) (if K a = 16 then 7 else 8) (nm (V (a + 2))), ?_, hf66, hA67⟩⟩; unfold sp_cl; rw [if_pos (by omega)]; unfold sp_pair; (repeat (first | rw [if_pos (by omega)] | rw [if_neg (by omega)])); done)
            | (refine ⟨_, _, rfl, hG85, Or.inl ⟨_, sp_cc (if K a = 14 then 4 else if K a = 15 then 5 else nm (V a)) (nm (V (a + 1)) - 4) (K (a + 2) - 18) (V (a + 3)), ?_, hf66, hA67⟩⟩; unfold sp_cl; rw [if_neg (by omega)]; unfold sp_single; (repeat (first | rw [if_pos (by omega)] | rw [if_neg (by omega)])); done)
          · have hW86 := mt_W_t hW58 (mt_G_F hGa70)
            have hF87 := mt_F_t hF59 (mt_G_F hGa70)
            have hG88 := mt_G_t hG60 hGa70
            have hz89 : 0 < sp_f P (a + 3) 1 := mt_f_ne hW58 hA42.2 (by omega)
            have hn90 : 0 < I69 82 8 := by rw [he71]; exact hz89
            have hx91 : sp_cl K P V ld nm a = .inr (sp_f P (a + 3) 1) := by
              first
              | (exfalso; omega)
              | (unfold sp_cl; rw [if_pos (by omega)]; unfold sp_pair; (repeat (first | rw [if_pos (by omega)] | rw [if_neg (by omega)])); done)
              | (unfold sp_cl; rw [if_neg (by omega)]; unfold sp_single; (repeat (first | rw [if_pos (by omega)] | rw [if_neg (by omega)])); done)
            show yi_D zi_Ms d zi_m94 k (79, [(4, .inl (nm (V (a + 2)) - 0)), (3, .inl (nm (V (a + 1)) - 0)), (2, .inl 7), (1, .inl (ld 0)), (0, .inr (.inr (some 82)))], [.inl z72, .inl (nm (V (a + 1)) - 0)], (I69, L, R, Y), 0, 0) _
            refine yi_D_run 2 (82, [(4, .inl (nm (V (a + 2)) - 0)), (3, .inl (nm (V (a + 1)) - 0)), (2, .inl 7), (1, .inl (ld 0)), (0, .inr (.inr (some 82)))], [.inl (nm (V (a + 2)) - 0), .inl 7, .inl z72, .inl (nm (V (a + 1)) - 0)], (I69, L, R, Y), 0, 0) (fun _ => rfl) ?_
            refine yi_D_calls rfl (q_clause) ?_
            rintro _ ⟨zc, rfl⟩
            show yi_D zi_Ms d zi_m94 k (85, [(4, .inl (nm (V (a + 2)) - 0)), (3, .inl (nm (V (a + 1)) - 0)), (2, .inl 7), (1, .inl (ld 0)), (0, .inr (.inr (some 82)))], [.inl zc], (I69, L, R, Y), 0, 0) _
            refine yi_D_reti rfl ?_
            exact ⟨_, _, rfl, hG88, Or.inr ⟨_, hx91, hz89, he71⟩⟩
          · have hW92 := mt_W_t hW58 (mt_G_F hGa75)
            have hF93 := mt_F_t hF59 (mt_G_F hGa75)
            have hG94 := mt_G_t hG60 hGa75
            have hz95 : 0 < sp_f P (a + 3) 2 := mt_f_ne hW58 hA42.2 (by omega)
            have hn96 : 0 < I74 82 8 := by rw [he76]; exact hz95
            have hx97 : sp_cl K P V ld nm a = .inr (sp_f P (a + 3) 2) := by
              first
              | (exfalso; omega)
              | (unfold sp_cl; rw [if_pos (by omega)]; unfold sp_pair; (repeat (first | rw [if_pos (by omega)] | rw [if_neg (by omega)])); done)
              | (unfold sp_cl; rw [if_neg (by omega)]; unfold sp_single; (repeat (first | rw [if_pos (by omega)] | rw [if_neg (by omega)])); done)
            show yi_D zi_Ms d zi_m94 k (79, [(4, .inl (nm (V (a + 2)) - 0)), (3, .inl (nm (V (a + 1)) - 0)), (2, .inl 7), (1, .inl (ld 0)), (0, .inr (.inr (some 82)))], [.inl z77, .inl (nm (V (a + 1)) - 0)], (I74, L, R, Y), 0, 0) _
            refine yi_D_run 2 (82, [(4, .inl (nm (V (a + 2)) - 0)), (3, .inl (nm (V (a + 1)) - 0)), (2, .inl 7), (1, .inl (ld 0)), (0, .inr (.inr (some 82)))], [.inl (nm (V (a + 2)) - 0), .inl 7, .inl z77, .inl (nm (V (a + 1)) - 0)], (I74, L, R, Y), 0, 0) (fun _ => rfl) ?_
            refine yi_D_calls rfl (q_clause) ?_
            rintro _ ⟨zc, rfl⟩
            show yi_D zi_Ms d zi_m94 k (85, [(4, .inl (nm (V (a + 2)) - 0)), (3, .inl (nm (V (a + 1)) - 0)), (2, .inl 7), (1, .inl (ld 0)), (0, .inr (.inr (some 82)))], [.inl zc], (I74, L, R, Y), 0, 0) _
            refine yi_D_reti rfl ?_
            exact ⟨_, _, rfl, hG94, Or.inr ⟨_, hx97, hz95, he76⟩⟩
          · have hW98 := mt_W_t hW58 (mt_G_F hGa80)
            have hF99 := mt_F_t hF59 (mt_G_F hGa80)
            have hG100 := mt_G_t hG60 hGa80
            have hz101 : 0 < sp_f P (a + 3) 3 := mt_f_ne hW58 hA42.2 (by omega)
            have hn102 : 0 < I79 82 8 := by rw [he81]; exact hz101
            have hx103 : sp_cl K P V ld nm a = .inr (sp_f P (a + 3) 3) := by
              first
              | (exfalso; omega)
              | (unfold sp_cl; rw [if_pos (by omega)]; unfold sp_pair; (repeat (first | rw [if_pos (by omega)] | rw [if_neg (by omega)])); done)
              | (unfold sp_cl; rw [if_neg (by omega)]; unfold sp_single; (repeat (first | rw [if_pos (by omega)] | rw [if_neg (by omega)])); done)
            show yi_D zi_Ms d zi_m94 k (79, [(4, .inl (nm (V (a + 2)) - 0)), (3, .inl (nm (V (a + 1)) - 0)), (2, .inl 7), (1, .inl (ld 0)), (0, .inr (.inr (some 82)))], [.inl z82, .inl (nm (V (a + 1)) - 0)], (I79, L, R, Y), 0, 0) _
            refine yi_D_run 2 (82, [(4, .inl (nm (V (a + 2)) - 0)), (3, .inl (nm (V (a + 1)) - 0)), (2, .inl 7), (1, .inl (ld 0)), (0, .inr (.inr (some 82)))], [.inl (nm (V (a + 2)) - 0), .inl 7, .inl z82, .inl (nm (V (a + 1)) - 0)], (I79, L, R, Y), 0, 0) (fun _ => rfl) ?_
            refine yi_D_calls rfl (q_clause) ?_
            rintro _ ⟨zc, rfl⟩
            show yi_D zi_Ms d zi_m94 k (85, [(4, .inl (nm (V (a + 2)) - 0)), (3, .inl (nm (V (a + 1)) - 0)), (2, .inl 7), (1, .inl (ld 0)), (0, .inr (.inr (some 82)))], [.inl zc], (I79, L, R, Y), 0, 0) _
            refine yi_D_reti rfl ?_
            exact ⟨_, _, rfl, hG100, Or.inr ⟨_, hx103, hz101, he81⟩⟩
        · have hW104 := mt_W_t hW33 (mt_G_F hGa45)
          have hF105 := mt_F_t hF34 (mt_G_F hGa45)
          have hG106 := mt_G_t hG35 hGa45
          have hz107 : 0 < sp_f P (a + 2) 1 := mt_f_ne hW33 hA17.2 (by omega)
          have hn108 : 0 < I44 82 8 := by rw [he46]; exact hz107
          have hx109 : sp_cl K P V ld nm a = .inr (sp_f P (a + 2) 1) := by
            first
            | (exfalso; omega)
            | (unfold sp_cl; rw [if_pos (by omega)]; unfold sp_pair; (repeat (first | rw [if_pos (by omega)] | rw [if_neg (by omega)])); done)
            | (unfold sp_cl; rw [if_neg (by omega)]; unfold sp_single; (repeat (first | rw [if_pos (by omega)] | rw [if_neg (by omega)])); done)
          show yi_D zi_Ms d zi_m94 k (70, [(3, .inl (nm (V (a + 1)) - 0)), (2, .inl 7), (1, .inl (ld 0)), (0, .inr (.inr (some 82)))], [.inl z47], (I44, L, R, Y), 0, 0) _
          refine yi_D_run 5 (76, [(4, .inl z47), (3, .inl (nm (V (a + 1)) - 0)), (2, .inl 7), (1, .inl (ld 0)), (0, .inr (.inr (some 82)))], [.inl (-1), .inl 1, .inr (.inr (some 82)), .inl (nm (V (a + 1)) - 0)], (I44, L, R, Y), 0, 0) (fun _ => rfl) ?_
          refine yi_D_callv rfl (q_takeTold1_f hW104 hn108) ?_
          rintro _ ⟨z110, rfl⟩
          show yi_D zi_Ms d zi_m94 k (79, [(4, .inl z47), (3, .inl (nm (V (a + 1)) - 0)), (2, .inl 7), (1, .inl (ld 0)), (0, .inr (.inr (some 82)))], [.inl z110, .inl (nm (V (a + 1)) - 0)], (I44, L, R, Y), 0, 0) _
          refine yi_D_run 2 (82, [(4, .inl z47), (3, .inl (nm (V (a + 1)) - 0)), (2, .inl 7), (1, .inl (ld 0)), (0, .inr (.inr (some 82)))], [.inl z47, .inl 7, .inl z110, .inl (nm (V (a + 1)) - 0)], (I44, L, R, Y), 0, 0) (fun _ => rfl) ?_
          refine yi_D_calls rfl (q_clause) ?_
          rintro _ ⟨zc, rfl⟩
          show yi_D zi_Ms d zi_m94 k (85, [(4, .inl z47), (3, .inl (nm (V (a + 1)) - 0)), (2, .inl 7), (1, .inl (ld 0)), (0, .inr (.inr (some 82)))], [.inl zc], (I44, L, R, Y), 0, 0) _
          refine yi_D_reti rfl ?_
          exact ⟨_, _, rfl, hG106, Or.inr ⟨_, hx109, hz107, he46⟩⟩
        · have hW111 := mt_W_t hW33 (mt_G_F hGa50)
          have hF112 := mt_F_t hF34 (mt_G_F hGa50)
          have hG113 := mt_G_t hG35 hGa50
          have hz114 : 0 < sp_f P (a + 2) 2 := mt_f_ne hW33 hA17.2 (by omega)
          have hn115 : 0 < I49 82 8 := by rw [he51]; exact hz114
          have hx116 : sp_cl K P V ld nm a = .inr (sp_f P (a + 2) 2) := by
            first
            | (exfalso; omega)
            | (unfold sp_cl; rw [if_pos (by omega)]; unfold sp_pair; (repeat (first | rw [if_pos (by omega)] | rw [if_neg (by omega)])); done)
            | (unfold sp_cl; rw [if_neg (by omega)]; unfold sp_single; (repeat (first | rw [if_pos (by omega)] | rw [if_neg (by omega)])); done)
          show yi_D zi_Ms d zi_m94 k (70, [(3, .inl (nm (V (a + 1)) - 0)), (2, .inl 7), (1, .inl (ld 0)), (0, .inr (.inr (some 82)))], [.inl z52], (I49, L, R, Y), 0, 0) _
          refine yi_D_run 5 (76, [(4, .inl z52), (3, .inl (nm (V (a + 1)) - 0)), (2, .inl 7), (1, .inl (ld 0)), (0, .inr (.inr (some 82)))], [.inl (-1), .inl 1, .inr (.inr (some 82)), .inl (nm (V (a + 1)) - 0)], (I49, L, R, Y), 0, 0) (fun _ => rfl) ?_
          refine yi_D_callv rfl (q_takeTold1_f hW111 hn115) ?_
          rintro _ ⟨z117, rfl⟩
          show yi_D zi_Ms d zi_m94 k (79, [(4, .inl z52), (3, .inl (nm (V (a + 1)) - 0)), (2, .inl 7), (1, .inl (ld 0)), (0, .inr (.inr (some 82)))], [.inl z117, .inl (nm (V (a + 1)) - 0)], (I49, L, R, Y), 0, 0) _
          refine yi_D_run 2 (82, [(4, .inl z52), (3, .inl (nm (V (a + 1)) - 0)), (2, .inl 7), (1, .inl (ld 0)), (0, .inr (.inr (some 82)))], [.inl z52, .inl 7, .inl z117, .inl (nm (V (a + 1)) - 0)], (I49, L, R, Y), 0, 0) (fun _ => rfl) ?_
          refine yi_D_calls rfl (q_clause) ?_
          rintro _ ⟨zc, rfl⟩
          show yi_D zi_Ms d zi_m94 k (85, [(4, .inl z52), (3, .inl (nm (V (a + 1)) - 0)), (2, .inl 7), (1, .inl (ld 0)), (0, .inr (.inr (some 82)))], [.inl zc], (I49, L, R, Y), 0, 0) _
          refine yi_D_reti rfl ?_
          exact ⟨_, _, rfl, hG113, Or.inr ⟨_, hx116, hz114, he51⟩⟩
        · have hW118 := mt_W_t hW33 (mt_G_F hGa55)
          have hF119 := mt_F_t hF34 (mt_G_F hGa55)
          have hG120 := mt_G_t hG35 hGa55
          have hz121 : 0 < sp_f P (a + 2) 3 := mt_f_ne hW33 hA17.2 (by omega)
          have hn122 : 0 < I54 82 8 := by rw [he56]; exact hz121
          have hx123 : sp_cl K P V ld nm a = .inr (sp_f P (a + 2) 3) := by
            first
            | (exfalso; omega)
            | (unfold sp_cl; rw [if_pos (by omega)]; unfold sp_pair; (repeat (first | rw [if_pos (by omega)] | rw [if_neg (by omega)])); done)
            | (unfold sp_cl; rw [if_neg (by omega)]; unfold sp_single; (repeat (first | rw [if_pos (by omega)] | rw [if_neg (by omega)])); done)
          show yi_D zi_Ms d zi_m94 k (70, [(3, .inl (nm (V (a + 1)) - 0)), (2, .inl 7), (1, .inl (ld 0)), (0, .inr (.inr (some 82)))], [.inl z57], (I54, L, R, Y), 0, 0) _
          refine yi_D_run 5 (76, [(4, .inl z57), (3, .inl (nm (V (a + 1)) - 0)), (2, .inl 7), (1, .inl (ld 0)), (0, .inr (.inr (some 82)))], [.inl (-1), .inl 1, .inr (.inr (some 82)), .inl (nm (V (a + 1)) - 0)], (I54, L, R, Y), 0, 0) (fun _ => rfl) ?_
          refine yi_D_callv rfl (q_takeTold1_f hW118 hn122) ?_
          rintro _ ⟨z124, rfl⟩
          show yi_D zi_Ms d zi_m94 k (79, [(4, .inl z57), (3, .inl (nm (V (a + 1)) - 0)), (2, .inl 7), (1, .inl (ld 0)), (0, .inr (.inr (some 82)))], [.inl z124, .inl (nm (V (a + 1)) - 0)], (I54, L, R, Y), 0, 0) _
          refine yi_D_run 2 (82, [(4, .inl z57), (3, .inl (nm (V (a + 1)) - 0)), (2, .inl 7), (1, .inl (ld 0)), (0, .inr (.inr (some 82)))], [.inl z57, .inl 7, .inl z124, .inl (nm (V (a + 1)) - 0)], (I54, L, R, Y), 0, 0) (fun _ => rfl) ?_
          refine yi_D_calls rfl (q_clause) ?_
          rintro _ ⟨zc, rfl⟩
          show yi_D zi_Ms d zi_m94 k (85, [(4, .inl z57), (3, .inl (nm (V (a + 1)) - 0)), (2, .inl 7), (1, .inl (ld 0)), (0, .inr (.inr (some 82)))], [.inl zc], (I54, L, R, Y), 0, 0) _
          refine yi_D_reti rfl ?_
          exact ⟨_, _, rfl, hG120, Or.inr ⟨_, hx123, hz121, he56⟩⟩
      · have hW125 := mt_W_t hW6 (mt_G_F hGa20)
        have hF126 := mt_F_t hF7 (mt_G_F hGa20)
        have hG127 := mt_G_t hG8 hGa20
        have hz128 : 0 < sp_f P (a + 1) 1 := mt_f_ne hW6 hA10.2 (by omega)
        have hn129 : 0 < I19 82 8 := by rw [he21]; exact hz128
        have hx130 : sp_cl K P V ld nm a = .inr (sp_f P (a + 1) 1) := by
          first
          | (exfalso; omega)
          | (unfold sp_cl; rw [if_pos (by omega)]; unfold sp_pair; (repeat (first | rw [if_pos (by omega)] | rw [if_neg (by omega)])); done)
          | (unfold sp_cl; rw [if_neg (by omega)]; unfold sp_single; (repeat (first | rw [if_pos (by omega)] | rw [if_neg (by omega)])); done)
        show yi_D zi_Ms d zi_m94 k (63, [(2, .inl 7), (1, .inl (ld 0)), (0, .inr (.inr (some 82)))], [.inl z22], (I19, L, R, Y), 0, 0) _
        refine yi_D_run 4 (67, [(3, .inl z22), (2, .inl 7), (1, .inl (ld 0)), (0, .inr (.inr (some 82)))], [.inl z22, .inl 0, .inr (.inr (some 82))], (I19, L, R, Y), 0, 0) (fun _ => rfl) ?_
        refine yi_D_callv rfl (q_takeTold0_f hW125 hn129) ?_
        rintro _ ⟨z131, rfl⟩
        show yi_D zi_Ms d zi_m94 k (70, [(3, .inl z22), (2, .inl 7), (1, .inl (ld 0)), (0, .inr (.inr (some 82)))], [.inl z131], (I19, L, R, Y), 0, 0) _
        refine yi_D_run 5 (76, [(4, .inl z131), (3, .inl z22), (2, .inl 7), (1, .inl (ld 0)), (0, .inr (.inr (some 82)))], [.inl (-1), .inl 1, .inr (.inr (some 82)), .inl z22], (I19, L, R, Y), 0, 0) (fun _ => rfl) ?_
        refine yi_D_callv rfl (q_takeTold1_f hW125 hn129) ?_
        rintro _ ⟨z132, rfl⟩
        show yi_D zi_Ms d zi_m94 k (79, [(4, .inl z131), (3, .inl z22), (2, .inl 7), (1, .inl (ld 0)), (0, .inr (.inr (some 82)))], [.inl z132, .inl z22], (I19, L, R, Y), 0, 0) _
        refine yi_D_run 2 (82, [(4, .inl z131), (3, .inl z22), (2, .inl 7), (1, .inl (ld 0)), (0, .inr (.inr (some 82)))], [.inl z131, .inl 7, .inl z132, .inl z22], (I19, L, R, Y), 0, 0) (fun _ => rfl) ?_
        refine yi_D_calls rfl (q_clause) ?_
        rintro _ ⟨zc, rfl⟩
        show yi_D zi_Ms d zi_m94 k (85, [(4, .inl z131), (3, .inl z22), (2, .inl 7), (1, .inl (ld 0)), (0, .inr (.inr (some 82)))], [.inl zc], (I19, L, R, Y), 0, 0) _
        refine yi_D_reti rfl ?_
        exact ⟨_, _, rfl, hG127, Or.inr ⟨_, hx130, hz128, he21⟩⟩
      · have hW133 := mt_W_t hW6 (mt_G_F hGa25)
        have hF134 := mt_F_t hF7 (mt_G_F hGa25)
        have hG135 := mt_G_t hG8 hGa25
        have hz136 : 0 < sp_f P (a + 1) 2 := mt_f_ne hW6 hA10.2 (by omega)
        have hn137 : 0 < I24 82 8 := by rw [he26]; exact hz136
        have hx138 : sp_cl K P V ld nm a = .inr (sp_f P (a + 1) 2) := by
          first
          | (exfalso; omega)
          | (unfold sp_cl; rw [if_pos (by omega)]; unfold sp_pair; (repeat (first | rw [if_pos (by omega)] | rw [if_neg (by omega)])); done)
          | (unfold sp_cl; rw [if_neg (by omega)]; unfold sp_single; (repeat (first | rw [if_pos (by omega)] | rw [if_neg (by omega)])); done)
        show yi_D zi_Ms d zi_m94 k (63, [(2, .inl 7), (1, .inl (ld 0)), (0, .inr (.inr (some 82)))], [.inl z27], (I24, L, R, Y), 0, 0) _
        refine yi_D_run 4 (67, [(3, .inl z27), (2, .inl 7), (1, .inl (ld 0)), (0, .inr (.inr (some 82)))], [.inl z27, .inl 0, .inr (.inr (some 82))], (I24, L, R, Y), 0, 0) (fun _ => rfl) ?_
        refine yi_D_callv rfl (q_takeTold0_f hW133 hn137) ?_
        rintro _ ⟨z139, rfl⟩
        show yi_D zi_Ms d zi_m94 k (70, [(3, .inl z27), (2, .inl 7), (1, .inl (ld 0)), (0, .inr (.inr (some 82)))], [.inl z139], (I24, L, R, Y), 0, 0) _
        refine yi_D_run 5 (76, [(4, .inl z139), (3, .inl z27), (2, .inl 7), (1, .inl (ld 0)), (0, .inr (.inr (some 82)))], [.inl (-1), .inl 1, .inr (.inr (some 82)), .inl z27], (I24, L, R, Y), 0, 0) (fun _ => rfl) ?_
        refine yi_D_callv rfl (q_takeTold1_f hW133 hn137) ?_
        rintro _ ⟨z140, rfl⟩
        show yi_D zi_Ms d zi_m94 k (79, [(4, .inl z139), (3, .inl z27), (2, .inl 7), (1, .inl (ld 0)), (0, .inr (.inr (some 82)))], [.inl z140, .inl z27], (I24, L, R, Y), 0, 0) _
        refine yi_D_run 2 (82, [(4, .inl z139), (3, .inl z27), (2, .inl 7), (1, .inl (ld 0)), (0, .inr (.inr (some 82)))], [.inl z139, .inl 7, .inl z140, .inl z27], (I24, L, R, Y), 0, 0) (fun _ => rfl) ?_
        refine yi_D_calls rfl (q_clause) ?_
        rintro _ ⟨zc, rfl⟩
        show yi_D zi_Ms d zi_m94 k (85, [(4, .inl z139), (3, .inl z27), (2, .inl 7), (1, .inl (ld 0)), (0, .inr (.inr (some 82)))], [.inl zc], (I24, L, R, Y), 0, 0) _
        refine yi_D_reti rfl ?_
        exact ⟨_, _, rfl, hG135, Or.inr ⟨_, hx138, hz136, he26⟩⟩
      · have hW141 := mt_W_t hW6 (mt_G_F hGa30)
        have hF142 := mt_F_t hF7 (mt_G_F hGa30)
        have hG143 := mt_G_t hG8 hGa30
        have hz144 : 0 < sp_f P (a + 1) 3 := mt_f_ne hW6 hA10.2 (by omega)
        have hn145 : 0 < I29 82 8 := by rw [he31]; exact hz144
        have hx146 : sp_cl K P V ld nm a = .inr (sp_f P (a + 1) 3) := by
          first
          | (exfalso; omega)
          | (unfold sp_cl; rw [if_pos (by omega)]; unfold sp_pair; (repeat (first | rw [if_pos (by omega)] | rw [if_neg (by omega)])); done)
          | (unfold sp_cl; rw [if_neg (by omega)]; unfold sp_single; (repeat (first | rw [if_pos (by omega)] | rw [if_neg (by omega)])); done)
        show yi_D zi_Ms d zi_m94 k (63, [(2, .inl 7), (1, .inl (ld 0)), (0, .inr (.inr (some 82)))], [.inl z32], (I29, L, R, Y), 0, 0) _
        refine yi_D_run 4 (67, [(3, .inl z32), (2, .inl 7), (1, .inl (ld 0)), (0, .inr (.inr (some 82)))], [.inl z32, .inl 0, .inr (.inr (some 82))], (I29, L, R, Y), 0, 0) (fun _ => rfl) ?_
        refine yi_D_callv rfl (q_takeTold0_f hW141 hn145) ?_
        rintro _ ⟨z147, rfl⟩
        show yi_D zi_Ms d zi_m94 k (70, [(3, .inl z32), (2, .inl 7), (1, .inl (ld 0)), (0, .inr (.inr (some 82)))], [.inl z147], (I29, L, R, Y), 0, 0) _
        refine yi_D_run 5 (76, [(4, .inl z147), (3, .inl z32), (2, .inl 7), (1, .inl (ld 0)), (0, .inr (.inr (some 82)))], [.inl (-1), .inl 1, .inr (.inr (some 82)), .inl z32], (I29, L, R, Y), 0, 0) (fun _ => rfl) ?_
        refine yi_D_callv rfl (q_takeTold1_f hW141 hn145) ?_
        rintro _ ⟨z148, rfl⟩
        show yi_D zi_Ms d zi_m94 k (79, [(4, .inl z147), (3, .inl z32), (2, .inl 7), (1, .inl (ld 0)), (0, .inr (.inr (some 82)))], [.inl z148, .inl z32], (I29, L, R, Y), 0, 0) _
        refine yi_D_run 2 (82, [(4, .inl z147), (3, .inl z32), (2, .inl 7), (1, .inl (ld 0)), (0, .inr (.inr (some 82)))], [.inl z147, .inl 7, .inl z148, .inl z32], (I29, L, R, Y), 0, 0) (fun _ => rfl) ?_
        refine yi_D_calls rfl (q_clause) ?_
        rintro _ ⟨zc, rfl⟩
        show yi_D zi_Ms d zi_m94 k (85, [(4, .inl z147), (3, .inl z32), (2, .inl 7), (1, .inl (ld 0)), (0, .inr (.inr (some 82)))], [.inl zc], (I29, L, R, Y), 0, 0) _
        refine yi_D_reti rfl ?_
        exact ⟨_, _, rfl, hG143, Or.inr ⟨_, hx146, hz144, he31⟩⟩
    · exfalso; omega
  · show yi_D zi_Ms d zi_m94 k (18, [(1, .inl (ld 0)), (0, .inr (.inr (some 82)))], [.inl 0], (I, L, R, Y), 0, 0) _
    refine yi_D_if1 false rfl (by decide) ?_
    refine yi_D_run 2 (24, [(1, .inl (ld 0)), (0, .inr (.inr (some 82)))], [.inl 13, .inr (.inr (some 82))], (I, L, R, Y), 0, 0) (fun _ => rfl) ?_
    refine yi_D_callv rfl (q_isWord_z (by omega) (by omega) hW hf hA) ?_
    rintro _ (⟨c149, rfl⟩ | ⟨c149, rfl⟩)
    · show yi_D zi_Ms d zi_m94 k (27, [(1, .inl (ld 0)), (0, .inr (.inr (some 82)))], [.inl 1], (I, L, R, Y), 0, 0) _
      refine yi_D_if1 false rfl (by decide) ?_
      refine yi_D_run 2 (33, [(1, .inl (ld 0)), (0, .inr (.inr (some 82)))], [.inl 12, .inr (.inr (some 82))], (I, L, R, Y), 0, 0) (fun _ => rfl) ?_
      refine yi_D_callv rfl (q_isWord_z (by omega) (by omega) hW hf hA) ?_
      rintro _ (⟨c150, rfl⟩ | ⟨c150, rfl⟩)
      · exfalso; omega
      · show yi_D zi_Ms d zi_m94 k (36, [(1, .inl (ld 0)), (0, .inr (.inr (some 82)))], [.inl 0], (I, L, R, Y), 0, 0) _
        refine yi_D_if1 true rfl (by decide) ?_
        refine yi_D_run 4 (49, [(2, .inl 8), (1, .inl (ld 0)), (0, .inr (.inr (some 82)))], [.inr (.inr (some 82)), .inr (.inr (some 82))], (I, L, R, Y), 0, 0) (fun _ => rfl) ?_
        refine yi_D_gi (v := (a : Int)) rfl rfl rfl hA.1 (fun _ => ?_)
        refine yi_D_run 1 (53, [(2, .inl 8), (1, .inl (ld 0)), (0, .inr (.inr (some 82)))], [.inl 1, .inl (a : Int), .inr (.inr (some 82))], (I, L, R, Y), 0, 0) (fun _ => rfl) ?_
        refine yi_D_iadd rfl ((a : Int) + 1) (yi_wn (by omega) (by omega)) ?_
        refine yi_D_pi rfl (fun _ => ?_)
        generalize w152 : yi_u I 82 7 ((a : Int) + 1) = I151
        have hGn153 : mt_G I I151 := fun p k hp => by rw [← w152, yi_u_ne _ _ (by omega)]
        have hW154 := mt_W_t hW (mt_G_F hGn153)
        have hF155 := (mt_G_F hGn153)
        have hG156 := hGn153
        have hf157 : I151 82 8 = 0 := by rw [← w152, yi_u_ne _ _ (by omega)]; exact hf
        have hA158 : mt_A I151 te (a + 1) := ⟨by rw [← w152, yi_u_eq]; omega, mt_lt hW154.2.1 hA.2 (by omega)⟩
        refine yi_D_run 3 (60, [(2, .inl 8), (1, .inl (ld 0)), (0, .inr (.inr (some 82)))], [.inl (-1), .inl 0, .inr (.inr (some 82))], (I151, L, R, Y), 0, 0) (fun _ => rfl) ?_
        refine yi_D_callv rfl (q_takeTold0_z (bt := (-1)) hW154 hf157 hA158) ?_
        rintro _ (⟨c159, c160, c161, I162, rfl, hGa163, hf164, hA165⟩ | ⟨c166, z170, I167, rfl, hGa168, he169⟩ | ⟨c171, z175, I172, rfl, hGa173, he174⟩ | ⟨c176, z180, I177, rfl, hGa178, he179⟩)
        · have hA165 : mt_A I162 te (a + 2) := hA165
          have hW181 := mt_W_t hW154 (mt_G_F hGa163)
          have hF182 := mt_F_t hF155 (mt_G_F hGa163)
          have hG183 := mt_G_t hG156 hGa163
          show yi_D zi_Ms d zi_m94 k (63, [(2, .inl 8), (1, .inl (ld 0)), (0, .inr (.inr (some 82)))], [.inl (nm (V (a + 1)) - 0)], (I162, L, R, Y), 0, 0) _
          refine yi_D_run 4 (67, [(3, .inl (nm (V (a + 1)) - 0)), (2, .inl 8), (1, .inl (ld 0)), (0, .inr (.inr (some 82)))], [.inl (nm (V (a + 1)) - 0), .inl 0, .inr (.inr (some 82))], (I162, L, R, Y), 0, 0) (fun _ => rfl) ?_
          refine yi_D_callv rfl (q_takeTold0_z (bt := nm (V (a + 1)) - 0) hW181 hf164 hA165) ?_
          rintro _ (⟨c184, c185, c186, I187, rfl, hGa188, hf189, hA190⟩ | ⟨c191, z195, I192, rfl, hGa193, he194⟩ | ⟨c196, z200, I197, rfl, hGa198, he199⟩ | ⟨c201, z205, I202, rfl, hGa203, he204⟩)
          · have hA190 : mt_A I187 te (a + 3) := hA190
            have hW206 := mt_W_t hW181 (mt_G_F hGa188)
            have hF207 := mt_F_t hF182 (mt_G_F hGa188)
            have hG208 := mt_G_t hG183 hGa188
            show yi_D zi_Ms d zi_m94 k (70, [(3, .inl (nm (V (a + 1)) - 0)), (2, .inl 8), (1, .inl (ld 0)), (0, .inr (.inr (some 82)))], [.inl (nm (V (a + 2)) - 0)], (I187, L, R, Y), 0, 0) _
            refine yi_D_run 5 (76, [(4, .inl (nm (V (a + 2)) - 0)), (3, .inl (nm (V (a + 1)) - 0)), (2, .inl 8), (1, .inl (ld 0)), (0, .inr (.inr (some 82)))], [.inl (-1), .inl 1, .inr (.inr (some 82)), .inl (nm (V (a + 1)) - 0)], (I187, L, R, Y), 0, 0) (fun _ => rfl) ?_
            refine yi_D_callv rfl (q_takeTold1_z (bt := (-1)) hW206 hf189 hA190) ?_
            rintro _ (⟨c209, c210, c211, I212, rfl, hGa213, hf214, hA215⟩ | ⟨c216, z220, I217, rfl, hGa218, he219⟩ | ⟨c221, z225, I222, rfl, hGa223, he224⟩ | ⟨c226, z230, I227, rfl, hGa228, he229⟩)
            · have hA215 : mt_A I212 te (a + 4) := hA215
              have hW231 := mt_W_t hW206 (mt_G_F hGa213)
              have hF232 := mt_F_t hF207 (mt_G_F hGa213)
              have hG233 := mt_G_t hG208 hGa213
              show yi_D zi_Ms d zi_m94 k (79, [(4, .inl (nm (V (a + 2)) - 0)), (3, .inl (nm (V (a + 1)) - 0)), (2, .inl 8), (1, .inl (ld 0)), (0, .inr (.inr (some 82)))], [.inl (nm (V (a + 3)) - 4), .inl (nm (V (a + 1)) - 0)], (I212, L, R, Y), 0, 0) _
              refine yi_D_run 2 (82, [(4, .inl (nm (V (a + 2)) - 0)), (3, .inl (nm (V (a + 1)) - 0)), (2, .inl 8), (1, .inl (ld 0)), (0, .inr (.inr (some 82)))], [.inl (nm (V (a + 2)) - 0), .inl 8, .inl (nm (V (a + 3)) - 4), .inl (nm (V (a + 1)) - 0)], (I212, L, R, Y), 0, 0) (fun _ => rfl) ?_
              refine yi_D_calls rfl (q_clause) ?_
              rintro _ ⟨zc, rfl⟩
              show yi_D zi_Ms d zi_m94 k (85, [(4, .inl (nm (V (a + 2)) - 0)), (3, .inl (nm (V (a + 1)) - 0)), (2, .inl 8), (1, .inl (ld 0)), (0, .inr (.inr (some 82)))], [.inl zc], (I212, L, R, Y), 0, 0) _
              refine yi_D_reti rfl ?_
              first
              | (exfalso; omega)
              | (refine ⟨_, _, rfl, hG233, Or.inl ⟨_, sp_cc (nm (V (a + 1))) (nm (V (a + 3)) - 4) (if K a = 16 then 7 else 8) (nm (V (a + 2))), ?_, hf214, hA215⟩⟩; unfold sp_cl; rw [if_pos (by omega)]; unfold sp_pair; (repeat (first | rw [if_pos (by omega)] | rw [if_neg (by omega)])); done)
              | (refine ⟨_, _, rfl, hG233, Or.inl ⟨_, sp_cc (if K a = 14 then 4 else if K a = 15 then 5 else nm (V a)) (nm (V (a + 1)) - 4) (K (a + 2) - 18) (V (a + 3)), ?_, hf214, hA215⟩⟩; unfold sp_cl; rw [if_neg (by omega)]; unfold sp_single; (repeat (first | rw [if_pos (by omega)] | rw [if_neg (by omega)])); done)
            · have hW234 := mt_W_t hW206 (mt_G_F hGa218)
              have hF235 := mt_F_t hF207 (mt_G_F hGa218)
              have hG236 := mt_G_t hG208 hGa218
              have hz237 : 0 < sp_f P (a + 3) 1 := mt_f_ne hW206 hA190.2 (by omega)
              have hn238 : 0 < I217 82 8 := by rw [he219]; exact hz237
              have hx239 : sp_cl K P V ld nm a = .inr (sp_f P (a + 3) 1) := by
                first
                | (exfalso; omega)
                | (unfold sp_cl; rw [if_pos (by omega)]; unfold sp_pair; (repeat (first | rw [if_pos (by omega)] | rw [if_neg (by omega)])); done)
                | (unfold sp_cl; rw [if_neg (by omega)]; unfold sp_single; (repeat (first | rw [if_pos (by omega)] | rw [if_neg (by omega)])); done)
              show yi_D zi_Ms d zi_m94 k (79, [(4, .inl (nm (V (a + 2)) - 0)), (3, .inl (nm (V (a + 1)) - 0)), (2, .inl 8), (1, .inl (ld 0)), (0, .inr (.inr (some 82)))], [.inl z220, .inl (nm (V (a + 1)) - 0)], (I217, L, R, Y), 0, 0) _
              refine yi_D_run 2 (82, [(4, .inl (nm (V (a + 2)) - 0)), (3, .inl (nm (V (a + 1)) - 0)), (2, .inl 8), (1, .inl (ld 0)), (0, .inr (.inr (some 82)))], [.inl (nm (V (a + 2)) - 0), .inl 8, .inl z220, .inl (nm (V (a + 1)) - 0)], (I217, L, R, Y), 0, 0) (fun _ => rfl) ?_
              refine yi_D_calls rfl (q_clause) ?_
              rintro _ ⟨zc, rfl⟩
              show yi_D zi_Ms d zi_m94 k (85, [(4, .inl (nm (V (a + 2)) - 0)), (3, .inl (nm (V (a + 1)) - 0)), (2, .inl 8), (1, .inl (ld 0)), (0, .inr (.inr (some 82)))], [.inl zc], (I217, L, R, Y), 0, 0) _
              refine yi_D_reti rfl ?_
              exact ⟨_, _, rfl, hG236, Or.inr ⟨_, hx239, hz237, he219⟩⟩
            · have hW240 := mt_W_t hW206 (mt_G_F hGa223)
              have hF241 := mt_F_t hF207 (mt_G_F hGa223)
              have hG242 := mt_G_t hG208 hGa223
              have hz243 : 0 < sp_f P (a + 3) 2 := mt_f_ne hW206 hA190.2 (by omega)
              have hn244 : 0 < I222 82 8 := by rw [he224]; exact hz243
              have hx245 : sp_cl K P V ld nm a = .inr (sp_f P (a + 3) 2) := by
                first
                | (exfalso; omega)
                | (unfold sp_cl; rw [if_pos (by omega)]; unfold sp_pair; (repeat (first | rw [if_pos (by omega)] | rw [if_neg (by omega)])); done)
                | (unfold sp_cl; rw [if_neg (by omega)]; unfold sp_single; (repeat (first | rw [if_pos (by omega)] | rw [if_neg (by omega)])); done)
              show yi_D zi_Ms d zi_m94 k (79, [(4, .inl (nm (V (a + 2)) - 0)), (3, .inl (nm (V (a + 1)) - 0)), (2, .inl 8), (1, .inl (ld 0)), (0, .inr (.inr (some 82)))], [.inl z225, .inl (nm (V (a + 1)) - 0)], (I222, L, R, Y), 0, 0) _
              refine yi_D_run 2 (82, [(4, .inl (nm (V (a + 2)) - 0)), (3, .inl (nm (V (a + 1)) - 0)), (2, .inl 8), (1, .inl (ld 0)), (0, .inr (.inr (some 82)))], [.inl (nm (V (a + 2)) - 0), .inl 8, .inl z225, .inl (nm (V (a + 1)) - 0)], (I222, L, R, Y), 0, 0) (fun _ => rfl) ?_
              refine yi_D_calls rfl (q_clause) ?_
              rintro _ ⟨zc, rfl⟩
              show yi_D zi_Ms d zi_m94 k (85, [(4, .inl (nm (V (a + 2)) - 0)), (3, .inl (nm (V (a + 1)) - 0)), (2, .inl 8), (1, .inl (ld 0)), (0, .inr (.inr (some 82)))], [.inl zc], (I222, L, R, Y), 0, 0) _
              refine yi_D_reti rfl ?_
              exact ⟨_, _, rfl, hG242, Or.inr ⟨_, hx245, hz243, he224⟩⟩
            · have hW246 := mt_W_t hW206 (mt_G_F hGa228)
              have hF247 := mt_F_t hF207 (mt_G_F hGa228)
              have hG248 := mt_G_t hG208 hGa228
              have hz249 : 0 < sp_f P (a + 3) 3 := mt_f_ne hW206 hA190.2 (by omega)
              have hn250 : 0 < I227 82 8 := by rw [he229]; exact hz249
              have hx251 : sp_cl K P V ld nm a = .inr (sp_f P (a + 3) 3) := by
                first
                | (exfalso; omega)
                | (unfold sp_cl; rw [if_pos (by omega)]; unfold sp_pair; (repeat (first | rw [if_pos (by omega)] | rw [if_neg (by omega)])); done)
                | (unfold sp_cl; rw [if_neg (by omega)]; unfold sp_single; (repeat (first | rw [if_pos (by omega)] | rw [if_neg (by omega)])); done)
              show yi_D zi_Ms d zi_m94 k (79, [(4, .inl (nm (V (a + 2)) - 0)), (3, .inl (nm (V (a + 1)) - 0)), (2, .inl 8), (1, .inl (ld 0)), (0, .inr (.inr (some 82)))], [.inl z230, .inl (nm (V (a + 1)) - 0)], (I227, L, R, Y), 0, 0) _
              refine yi_D_run 2 (82, [(4, .inl (nm (V (a + 2)) - 0)), (3, .inl (nm (V (a + 1)) - 0)), (2, .inl 8), (1, .inl (ld 0)), (0, .inr (.inr (some 82)))], [.inl (nm (V (a + 2)) - 0), .inl 8, .inl z230, .inl (nm (V (a + 1)) - 0)], (I227, L, R, Y), 0, 0) (fun _ => rfl) ?_
              refine yi_D_calls rfl (q_clause) ?_
              rintro _ ⟨zc, rfl⟩
              show yi_D zi_Ms d zi_m94 k (85, [(4, .inl (nm (V (a + 2)) - 0)), (3, .inl (nm (V (a + 1)) - 0)), (2, .inl 8), (1, .inl (ld 0)), (0, .inr (.inr (some 82)))], [.inl zc], (I227, L, R, Y), 0, 0) _
              refine yi_D_reti rfl ?_
              exact ⟨_, _, rfl, hG248, Or.inr ⟨_, hx251, hz249, he229⟩⟩
          · have hW252 := mt_W_t hW181 (mt_G_F hGa193)
            have hF253 := mt_F_t hF182 (mt_G_F hGa193)
            have hG254 := mt_G_t hG183 hGa193
            have hz255 : 0 < sp_f P (a + 2) 1 := mt_f_ne hW181 hA165.2 (by omega)
            have hn256 : 0 < I192 82 8 := by rw [he194]; exact hz255
            have hx257 : sp_cl K P V ld nm a = .inr (sp_f P (a + 2) 1) := by
              first
              | (exfalso; omega)
              | (unfold sp_cl; rw [if_pos (by omega)]; unfold sp_pair; (repeat (first | rw [if_pos (by omega)] | rw [if_neg (by omega)])); done)
              | (unfold sp_cl; rw [if_neg (by omega)]; unfold sp_single; (repeat (first | rw [if_pos (by omega)] | rw [if_neg (by omega)])); done)
            show yi_D zi_Ms d zi_m94 k (70, [(3, .inl (nm (V (a + 1)) - 0)), (2, .inl 8), (1, .inl (ld 0)), (0, .inr (.inr (some 82)))], [.inl z195], (I192, L, R, Y), 0, 0) _
            refine yi_D_run 5 (76, [(4, .inl z195), (3, .inl (nm (V (a + 1)) - 0)), (2, .inl 8), (1, .inl (ld 0)), (0, .inr (.inr (some 82)))], [.inl (-1), .inl 1, .inr (.inr (some 82)), .inl (nm (V (a + 1)) - 0)], (I192, L, R, Y), 0, 0) (fun _ => rfl) ?_
            refine yi_D_callv rfl (q_takeTold1_f hW252 hn256) ?_
            rintro _ ⟨z258, rfl⟩
            show yi_D zi_Ms d zi_m94 k (79, [(4, .inl z195), (3, .inl (nm (V (a + 1)) - 0)), (2, .inl 8), (1, .inl (ld 0)), (0, .inr (.inr (some 82)))], [.inl z258, .inl (nm (V (a + 1)) - 0)], (I192, L, R, Y), 0, 0) _
            refine yi_D_run 2 (82, [(4, .inl z195), (3, .inl (nm (V (a + 1)) - 0)), (2, .inl 8), (1, .inl (ld 0)), (0, .inr (.inr (some 82)))], [.inl z195, .inl 8, .inl z258, .inl (nm (V (a + 1)) - 0)], (I192, L, R, Y), 0, 0) (fun _ => rfl) ?_
            refine yi_D_calls rfl (q_clause) ?_
            rintro _ ⟨zc, rfl⟩
            show yi_D zi_Ms d zi_m94 k (85, [(4, .inl z195), (3, .inl (nm (V (a + 1)) - 0)), (2, .inl 8), (1, .inl (ld 0)), (0, .inr (.inr (some 82)))], [.inl zc], (I192, L, R, Y), 0, 0) _
            refine yi_D_reti rfl ?_
            exact ⟨_, _, rfl, hG254, Or.inr ⟨_, hx257, hz255, he194⟩⟩
          · have hW259 := mt_W_t hW181 (mt_G_F hGa198)
            have hF260 := mt_F_t hF182 (mt_G_F hGa198)
            have hG261 := mt_G_t hG183 hGa198
            have hz262 : 0 < sp_f P (a + 2) 2 := mt_f_ne hW181 hA165.2 (by omega)
            have hn263 : 0 < I197 82 8 := by rw [he199]; exact hz262
            have hx264 : sp_cl K P V ld nm a = .inr (sp_f P (a + 2) 2) := by
              first
              | (exfalso; omega)
              | (unfold sp_cl; rw [if_pos (by omega)]; unfold sp_pair; (repeat (first | rw [if_pos (by omega)] | rw [if_neg (by omega)])); done)
              | (unfold sp_cl; rw [if_neg (by omega)]; unfold sp_single; (repeat (first | rw [if_pos (by omega)] | rw [if_neg (by omega)])); done)
            show yi_D zi_Ms d zi_m94 k (70, [(3, .inl (nm (V (a + 1)) - 0)), (2, .inl 8), (1, .inl (ld 0)), (0, .inr (.inr (some 82)))], [.inl z200], (I197, L, R, Y), 0, 0) _
            refine yi_D_run 5 (76, [(4, .inl z200), (3, .inl (nm (V (a + 1)) - 0)), (2, .inl 8), (1, .inl (ld 0)), (0, .inr (.inr (some 82)))], [.inl (-1), .inl 1, .inr (.inr (some 82)), .inl (nm (V (a + 1)) - 0)], (I197, L, R, Y), 0, 0) (fun _ => rfl) ?_
            refine yi_D_callv rfl (q_takeTold1_f hW259 hn263) ?_
            rintro _ ⟨z265, rfl⟩
            show yi_D zi_Ms d zi_m94 k (79, [(4, .inl z200), (3, .inl (nm (V (a + 1)) - 0)), (2, .inl 8), (1, .inl (ld 0)), (0, .inr (.inr (some 82)))], [.inl z265, .inl (nm (V (a + 1)) - 0)], (I197, L, R, Y), 0, 0) _
            refine yi_D_run 2 (82, [(4, .inl z200), (3, .inl (nm (V (a + 1)) - 0)), (2, .inl 8), (1, .inl (ld 0)), (0, .inr (.inr (some 82)))], [.inl z200, .inl 8, .inl z265, .inl (nm (V (a + 1)) - 0)], (I197, L, R, Y), 0, 0) (fun _ => rfl) ?_
            refine yi_D_calls rfl (q_clause) ?_
            rintro _ ⟨zc, rfl⟩
            show yi_D zi_Ms d zi_m94 k (85, [(4, .inl z200), (3, .inl (nm (V (a + 1)) - 0)), (2, .inl 8), (1, .inl (ld 0)), (0, .inr (.inr (some 82)))], [.inl zc], (I197, L, R, Y), 0, 0) _
            refine yi_D_reti rfl ?_
            exact ⟨_, _, rfl, hG261, Or.inr ⟨_, hx264, hz262, he199⟩⟩
          · have hW266 := mt_W_t hW181 (mt_G_F hGa203)
            have hF267 := mt_F_t hF182 (mt_G_F hGa203)
            have hG268 := mt_G_t hG183 hGa203
            have hz269 : 0 < sp_f P (a + 2) 3 := mt_f_ne hW181 hA165.2 (by omega)
            have hn270 : 0 < I202 82 8 := by rw [he204]; exact hz269
            have hx271 : sp_cl K P V ld nm a = .inr (sp_f P (a + 2) 3) := by
              first
              | (exfalso; omega)
              | (unfold sp_cl; rw [if_pos (by omega)]; unfold sp_pair; (repeat (first | rw [if_pos (by omega)] | rw [if_neg (by omega)])); done)
              | (unfold sp_cl; rw [if_neg (by omega)]; unfold sp_single; (repeat (first | rw [if_pos (by omega)] | rw [if_neg (by omega)])); done)
            show yi_D zi_Ms d zi_m94 k (70, [(3, .inl (nm (V (a + 1)) - 0)), (2, .inl 8), (1, .inl (ld 0)), (0, .inr (.inr (some 82)))], [.inl z205], (I202, L, R, Y), 0, 0) _
            refine yi_D_run 5 (76, [(4, .inl z205), (3, .inl (nm (V (a + 1)) - 0)), (2, .inl 8), (1, .inl (ld 0)), (0, .inr (.inr (some 82)))], [.inl (-1), .inl 1, .inr (.inr (some 82)), .inl (nm (V (a + 1)) - 0)], (I202, L, R, Y), 0, 0) (fun _ => rfl) ?_
            refine yi_D_callv rfl (q_takeTold1_f hW266 hn270) ?_
            rintro _ ⟨z272, rfl⟩
            show yi_D zi_Ms d zi_m94 k (79, [(4, .inl z205), (3, .inl (nm (V (a + 1)) - 0)), (2, .inl 8), (1, .inl (ld 0)), (0, .inr (.inr (some 82)))], [.inl z272, .inl (nm (V (a + 1)) - 0)], (I202, L, R, Y), 0, 0) _
            refine yi_D_run 2 (82, [(4, .inl z205), (3, .inl (nm (V (a + 1)) - 0)), (2, .inl 8), (1, .inl (ld 0)), (0, .inr (.inr (some 82)))], [.inl z205, .inl 8, .inl z272, .inl (nm (V (a + 1)) - 0)], (I202, L, R, Y), 0, 0) (fun _ => rfl) ?_
            refine yi_D_calls rfl (q_clause) ?_
            rintro _ ⟨zc, rfl⟩
            show yi_D zi_Ms d zi_m94 k (85, [(4, .inl z205), (3, .inl (nm (V (a + 1)) - 0)), (2, .inl 8), (1, .inl (ld 0)), (0, .inr (.inr (some 82)))], [.inl zc], (I202, L, R, Y), 0, 0) _
            refine yi_D_reti rfl ?_
            exact ⟨_, _, rfl, hG268, Or.inr ⟨_, hx271, hz269, he204⟩⟩
        · have hW273 := mt_W_t hW154 (mt_G_F hGa168)
          have hF274 := mt_F_t hF155 (mt_G_F hGa168)
          have hG275 := mt_G_t hG156 hGa168
          have hz276 : 0 < sp_f P (a + 1) 1 := mt_f_ne hW154 hA158.2 (by omega)
          have hn277 : 0 < I167 82 8 := by rw [he169]; exact hz276
          have hx278 : sp_cl K P V ld nm a = .inr (sp_f P (a + 1) 1) := by
            first
            | (exfalso; omega)
            | (unfold sp_cl; rw [if_pos (by omega)]; unfold sp_pair; (repeat (first | rw [if_pos (by omega)] | rw [if_neg (by omega)])); done)
            | (unfold sp_cl; rw [if_neg (by omega)]; unfold sp_single; (repeat (first | rw [if_pos (by omega)] | rw [if_neg (by omega)])); done)
          show yi_D zi_Ms d zi_m94 k (63, [(2, .inl 8), (1, .inl (ld 0)), (0, .inr (.inr (some 82)))], [.inl z170], (I167, L, R, Y), 0, 0) _
          refine yi_D_run 4 (67, [(3, .inl z170), (2, .inl 8), (1, .inl (ld 0)), (0, .inr (.inr (some 82)))], [.inl z170, .inl 0, .inr (.inr (some 82))], (I167, L, R, Y), 0, 0) (fun _ => rfl) ?_
          refine yi_D_callv rfl (q_takeTold0_f hW273 hn277) ?_
          rintro _ ⟨z279, rfl⟩
          show yi_D zi_Ms d zi_m94 k (70, [(3, .inl z170), (2, .inl 8), (1, .inl (ld 0)), (0, .inr (.inr (some 82)))], [.inl z279], (I167, L, R, Y), 0, 0) _
          refine yi_D_run 5 (76, [(4, .inl z279), (3, .inl z170), (2, .inl 8), (1, .inl (ld 0)), (0, .inr (.inr (some 82)))], [.inl (-1), .inl 1, .inr (.inr (some 82)), .inl z170], (I167, L, R, Y), 0, 0) (fun _ => rfl) ?_
          refine yi_D_callv rfl (q_takeTold1_f hW273 hn277) ?_
          rintro _ ⟨z280, rfl⟩
          show yi_D zi_Ms d zi_m94 k (79, [(4, .inl z279), (3, .inl z170), (2, .inl 8), (1, .inl (ld 0)), (0, .inr (.inr (some 82)))], [.inl z280, .inl z170], (I167, L, R, Y), 0, 0) _
          refine yi_D_run 2 (82, [(4, .inl z279), (3, .inl z170), (2, .inl 8), (1, .inl (ld 0)), (0, .inr (.inr (some 82)))], [.inl z279, .inl 8, .inl z280, .inl z170], (I167, L, R, Y), 0, 0) (fun _ => rfl) ?_
          refine yi_D_calls rfl (q_clause) ?_
          rintro _ ⟨zc, rfl⟩
          show yi_D zi_Ms d zi_m94 k (85, [(4, .inl z279), (3, .inl z170), (2, .inl 8), (1, .inl (ld 0)), (0, .inr (.inr (some 82)))], [.inl zc], (I167, L, R, Y), 0, 0) _
          refine yi_D_reti rfl ?_
          exact ⟨_, _, rfl, hG275, Or.inr ⟨_, hx278, hz276, he169⟩⟩
        · have hW281 := mt_W_t hW154 (mt_G_F hGa173)
          have hF282 := mt_F_t hF155 (mt_G_F hGa173)
          have hG283 := mt_G_t hG156 hGa173
          have hz284 : 0 < sp_f P (a + 1) 2 := mt_f_ne hW154 hA158.2 (by omega)
          have hn285 : 0 < I172 82 8 := by rw [he174]; exact hz284
          have hx286 : sp_cl K P V ld nm a = .inr (sp_f P (a + 1) 2) := by
            first
            | (exfalso; omega)
            | (unfold sp_cl; rw [if_pos (by omega)]; unfold sp_pair; (repeat (first | rw [if_pos (by omega)] | rw [if_neg (by omega)])); done)
            | (unfold sp_cl; rw [if_neg (by omega)]; unfold sp_single; (repeat (first | rw [if_pos (by omega)] | rw [if_neg (by omega)])); done)
          show yi_D zi_Ms d zi_m94 k (63, [(2, .inl 8), (1, .inl (ld 0)), (0, .inr (.inr (some 82)))], [.inl z175], (I172, L, R, Y), 0, 0) _
          refine yi_D_run 4 (67, [(3, .inl z175), (2, .inl 8), (1, .inl (ld 0)), (0, .inr (.inr (some 82)))], [.inl z175, .inl 0, .inr (.inr (some 82))], (I172, L, R, Y), 0, 0) (fun _ => rfl) ?_
          refine yi_D_callv rfl (q_takeTold0_f hW281 hn285) ?_
          rintro _ ⟨z287, rfl⟩
          show yi_D zi_Ms d zi_m94 k (70, [(3, .inl z175), (2, .inl 8), (1, .inl (ld 0)), (0, .inr (.inr (some 82)))], [.inl z287], (I172, L, R, Y), 0, 0) _
          refine yi_D_run 5 (76, [(4, .inl z287), (3, .inl z175), (2, .inl 8), (1, .inl (ld 0)), (0, .inr (.inr (some 82)))], [.inl (-1), .inl 1, .inr (.inr (some 82)), .inl z175], (I172, L, R, Y), 0, 0) (fun _ => rfl) ?_
          refine yi_D_callv rfl (q_takeTold1_f hW281 hn285) ?_
          rintro _ ⟨z288, rfl⟩
          show yi_D zi_Ms d zi_m94 k (79, [(4, .inl z287), (3, .inl z175), (2, .inl 8), (1, .inl (ld 0)), (0, .inr (.inr (some 82)))], [.inl z288, .inl z175], (I172, L, R, Y), 0, 0) _
          refine yi_D_run 2 (82, [(4, .inl z287), (3, .inl z175), (2, .inl 8), (1, .inl (ld 0)), (0, .inr (.inr (some 82)))], [.inl z287, .inl 8, .inl z288, .inl z175], (I172, L, R, Y), 0, 0) (fun _ => rfl) ?_
          refine yi_D_calls rfl (q_clause) ?_
          rintro _ ⟨zc, rfl⟩
          show yi_D zi_Ms d zi_m94 k (85, [(4, .inl z287), (3, .inl z175), (2, .inl 8), (1, .inl (ld 0)), (0, .inr (.inr (some 82)))], [.inl zc], (I172, L, R, Y), 0, 0) _
          refine yi_D_reti rfl ?_
          exact ⟨_, _, rfl, hG283, Or.inr ⟨_, hx286, hz284, he174⟩⟩
        · have hW289 := mt_W_t hW154 (mt_G_F hGa178)
          have hF290 := mt_F_t hF155 (mt_G_F hGa178)
          have hG291 := mt_G_t hG156 hGa178
          have hz292 : 0 < sp_f P (a + 1) 3 := mt_f_ne hW154 hA158.2 (by omega)
          have hn293 : 0 < I177 82 8 := by rw [he179]; exact hz292
          have hx294 : sp_cl K P V ld nm a = .inr (sp_f P (a + 1) 3) := by
            first
            | (exfalso; omega)
            | (unfold sp_cl; rw [if_pos (by omega)]; unfold sp_pair; (repeat (first | rw [if_pos (by omega)] | rw [if_neg (by omega)])); done)
            | (unfold sp_cl; rw [if_neg (by omega)]; unfold sp_single; (repeat (first | rw [if_pos (by omega)] | rw [if_neg (by omega)])); done)
          show yi_D zi_Ms d zi_m94 k (63, [(2, .inl 8), (1, .inl (ld 0)), (0, .inr (.inr (some 82)))], [.inl z180], (I177, L, R, Y), 0, 0) _
          refine yi_D_run 4 (67, [(3, .inl z180), (2, .inl 8), (1, .inl (ld 0)), (0, .inr (.inr (some 82)))], [.inl z180, .inl 0, .inr (.inr (some 82))], (I177, L, R, Y), 0, 0) (fun _ => rfl) ?_
          refine yi_D_callv rfl (q_takeTold0_f hW289 hn293) ?_
          rintro _ ⟨z295, rfl⟩
          show yi_D zi_Ms d zi_m94 k (70, [(3, .inl z180), (2, .inl 8), (1, .inl (ld 0)), (0, .inr (.inr (some 82)))], [.inl z295], (I177, L, R, Y), 0, 0) _
          refine yi_D_run 5 (76, [(4, .inl z295), (3, .inl z180), (2, .inl 8), (1, .inl (ld 0)), (0, .inr (.inr (some 82)))], [.inl (-1), .inl 1, .inr (.inr (some 82)), .inl z180], (I177, L, R, Y), 0, 0) (fun _ => rfl) ?_
          refine yi_D_callv rfl (q_takeTold1_f hW289 hn293) ?_
          rintro _ ⟨z296, rfl⟩
          show yi_D zi_Ms d zi_m94 k (79, [(4, .inl z295), (3, .inl z180), (2, .inl 8), (1, .inl (ld 0)), (0, .inr (.inr (some 82)))], [.inl z296, .inl z180], (I177, L, R, Y), 0, 0) _
          refine yi_D_run 2 (82, [(4, .inl z295), (3, .inl z180), (2, .inl 8), (1, .inl (ld 0)), (0, .inr (.inr (some 82)))], [.inl z295, .inl 8, .inl z296, .inl z180], (I177, L, R, Y), 0, 0) (fun _ => rfl) ?_
          refine yi_D_calls rfl (q_clause) ?_
          rintro _ ⟨zc, rfl⟩
          show yi_D zi_Ms d zi_m94 k (85, [(4, .inl z295), (3, .inl z180), (2, .inl 8), (1, .inl (ld 0)), (0, .inr (.inr (some 82)))], [.inl zc], (I177, L, R, Y), 0, 0) _
          refine yi_D_reti rfl ?_
          exact ⟨_, _, rfl, hG291, Or.inr ⟨_, hx294, hz292, he179⟩⟩
    · show yi_D zi_Ms d zi_m94 k (27, [(1, .inl (ld 0)), (0, .inr (.inr (some 82)))], [.inl 0], (I, L, R, Y), 0, 0) _
      refine yi_D_if1 true rfl (by decide) ?_
      refine yi_D_run 2 (89, [(1, .inl (ld 0)), (0, .inr (.inr (some 82)))], [.inl 10, .inr (.inr (some 82))], (I, L, R, Y), 0, 0) (fun _ => rfl) ?_
      refine yi_D_callv rfl (q_isWord_z (by omega) (by omega) hW hf hA) ?_
      rintro _ (⟨c297, rfl⟩ | ⟨c297, rfl⟩)
      · show yi_D zi_Ms d zi_m94 k (92, [(1, .inl (ld 0)), (0, .inr (.inr (some 82)))], [.inl 1], (I, L, R, Y), 0, 0) _
        refine yi_D_if1 false rfl (by decide) ?_
        refine yi_D_run 5 (116, [(2, .inl 4), (1, .inl (ld 0)), (0, .inr (.inr (some 82)))], [.inr (.inr (some 82)), .inr (.inr (some 82))], (I, L, R, Y), 0, 0) (fun _ => rfl) ?_
        refine yi_D_gi (v := (a : Int)) rfl rfl rfl hA.1 (fun _ => ?_)
        refine yi_D_run 1 (120, [(2, .inl 4), (1, .inl (ld 0)), (0, .inr (.inr (some 82)))], [.inl 4, .inl (a : Int), .inr (.inr (some 82))], (I, L, R, Y), 0, 0) (fun _ => rfl) ?_
        refine yi_D_if1 true rfl (by decide) ?_
        refine yi_D_run 1 (128, [(2, .inl 4), (1, .inl (ld 0)), (0, .inr (.inr (some 82)))], [.inl 1, .inl (a : Int), .inr (.inr (some 82))], (I, L, R, Y), 0, 0) (fun _ => rfl) ?_
        refine yi_D_iadd rfl ((a : Int) + 1) (yi_wn (by omega) (by omega)) ?_
        refine yi_D_pi rfl (fun _ => ?_)
        generalize w299 : yi_u I 82 7 ((a : Int) + 1) = I298
        have hGn300 : mt_G I I298 := fun p k hp => by rw [← w299, yi_u_ne _ _ (by omega)]
        have hW301 := mt_W_t hW (mt_G_F hGn300)
        have hF302 := (mt_G_F hGn300)
        have hG303 := hGn300
        have hf304 : I298 82 8 = 0 := by rw [← w299, yi_u_ne _ _ (by omega)]; exact hf
        have hA305 : mt_A I298 te (a + 1) := ⟨by rw [← w299, yi_u_eq]; omega, mt_lt hW301.2.1 hA.2 (by omega)⟩
        refine yi_D_run 1 (133, [(2, .inl 4), (1, .inl (ld 0)), (0, .inr (.inr (some 82)))], [.inl 4], (I298, L, R, Y), 0, 0) (fun _ => rfl) ?_
        refine yi_D_if1 true rfl (by decide) ?_
        refine yi_D_run 5 (150, [(2, .inl 4), (1, .inl (ld 0)), (0, .inr (.inr (some 82)))], [.inl (-1), .inl 1, .inr (.inr (some 82))], (I298, L, R, Y), 0, 0) (fun _ => rfl) ?_
        refine yi_D_callv rfl (q_takeTold1_z (bt := (-1)) hW301 hf304 hA305) ?_
        rintro _ (⟨c306, c307, c308, I309, rfl, hGa310, hf311, hA312⟩ | ⟨c313, z317, I314, rfl, hGa315, he316⟩ | ⟨c318, z322, I319, rfl, hGa320, he321⟩ | ⟨c323, z327, I324, rfl, hGa325, he326⟩)
        · have hA312 : mt_A I309 te (a + 2) := hA312
          have hW328 := mt_W_t hW301 (mt_G_F hGa310)
          have hF329 := mt_F_t hF302 (mt_G_F hGa310)
          have hG330 := mt_G_t hG303 hGa310
          show yi_D zi_Ms d zi_m94 k (153, [(2, .inl 4), (1, .inl (ld 0)), (0, .inr (.inr (some 82)))], [.inl (nm (V (a + 1)) - 4)], (I309, L, R, Y), 0, 0) _
          refine yi_D_run 2 (155, [(3, .inl (nm (V (a + 1)) - 4)), (2, .inl 4), (1, .inl (ld 0)), (0, .inr (.inr (some 82)))], [.inr (.inr (some 82))], (I309, L, R, Y), 0, 0) (fun _ => rfl) ?_
          refine yi_D_gi (v := 0) rfl rfl rfl hf311 (fun _ => ?_)
          refine yi_D_if1 true rfl (by decide) ?_
          refine yi_D_run 3 (170, [(3, .inl (nm (V (a + 1)) - 4)), (2, .inl 4), (1, .inl (ld 0)), (0, .inr (.inr (some 82)))], [.inl 7, .inl 14, .inr (.inr (some 82))], (I309, L, R, Y), 0, 0) (fun _ => rfl) ?_
          refine yi_D_callv rfl (q_wordHere_z (by omega) (by omega) (by omega) hW328 hf311 hA312) ?_
          rintro _ ⟨z331, rfl, hz332⟩
          show yi_D zi_Ms d zi_m94 k (173, [(3, .inl (nm (V (a + 1)) - 4)), (2, .inl 4), (1, .inl (ld 0)), (0, .inr (.inr (some 82)))], [.inl z331], (I309, L, R, Y), 0, 0) _
          refine yi_D_run 2 (177, [(4, .inl z331), (3, .inl (nm (V (a + 1)) - 4)), (2, .inl 4), (1, .inl (ld 0)), (0, .inr (.inr (some 82)))], [.inl z331], (I309, L, R, Y), 0, 0) (fun _ => rfl) ?_
          by_cases h333 : 0 ≤ z331
          · refine yi_D_if1 true rfl (yi_ge_t h333) ?_
            refine yi_D_run 2 (189, [(4, .inl z331), (3, .inl (nm (V (a + 1)) - 4)), (2, .inl 4), (1, .inl (ld 0)), (0, .inr (.inr (some 82)))], [.inr (.inr (some 82)), .inr (.inr (some 82))], (I309, L, R, Y), 0, 0) (fun _ => rfl) ?_
            refine yi_D_gi (v := ((a + 2 : Nat) : Int)) rfl rfl rfl hA312.1 (fun _ => ?_)
            refine yi_D_run 1 (193, [(4, .inl z331), (3, .inl (nm (V (a + 1)) - 4)), (2, .inl 4), (1, .inl (ld 0)), (0, .inr (.inr (some 82)))], [.inl 1, .inl ((a + 2 : Nat) : Int), .inr (.inr (some 82))], (I309, L, R, Y), 0, 0) (fun _ => rfl) ?_
            refine yi_D_iadd rfl (((a + 2 : Nat) : Int) + 1) (yi_wn (by omega) (by omega)) ?_
            refine yi_D_pi rfl (fun _ => ?_)
            generalize w335 : yi_u I309 82 7 (((a + 2 : Nat) : Int) + 1) = I334
            have hGn336 : mt_G I309 I334 := fun p k hp => by rw [← w335, yi_u_ne _ _ (by omega)]
            have hW337 := mt_W_t hW328 (mt_G_F hGn336)
            have hF338 := mt_F_t hF329 (mt_G_F hGn336)
            have hG339 := mt_G_t hG330 hGn336
            have hf340 : I334 82 8 = 0 := by rw [← w335, yi_u_ne _ _ (by omega)]; exact hf311
            have hA341 : mt_A I334 te (a + 3) := ⟨by rw [← w335, yi_u_eq]; omega, mt_lt hW337.2.1 hA312.2 (by omega)⟩
            refine yi_D_run 2 (200, [(4, .inl z331), (3, .inl (nm (V (a + 1)) - 4)), (2, .inl 4), (1, .inl (ld 0)), (0, .inr (.inr (some 82)))], [.inl 2, .inl z331], (I334, L, R, Y), 0, 0) (fun _ => rfl) ?_
            by_cases h342 : 2 < z331
            · refine yi_D_if2 true rfl (yi_gt_t h342) ?_
              refine yi_D_run 2 (215, [(4, .inl z331), (3, .inl (nm (V (a + 1)) - 4)), (2, .inl 4), (1, .inl (ld 0)), (0, .inr (.inr (some 82)))], [.inl 5, .inl z331], (I334, L, R, Y), 0, 0) (fun _ => rfl) ?_
              by_cases h343 : z331 < 5
              · refine yi_D_if2 true rfl (yi_lt_t h343) ?_
                refine yi_D_run 6 (236, [(5, .inl 0), (4, .inl z331), (3, .inl (nm (V (a + 1)) - 4)), (2, .inl 4), (1, .inl (ld 0)), (0, .inr (.inr (some 82)))], [.inl 0, .inl z331, .inl (nm (V (a + 1)) - 4), .inl 4], (I334, L, R, Y), 0, 0) (fun _ => rfl) ?_
                refine yi_D_calls rfl (q_clause) ?_
                rintro _ ⟨zc, rfl⟩
                show yi_D zi_Ms d zi_m94 k (239, [(5, .inl 0), (4, .inl z331), (3, .inl (nm (V (a + 1)) - 4)), (2, .inl 4), (1, .inl (ld 0)), (0, .inr (.inr (some 82)))], [.inl zc], (I334, L, R, Y), 0, 0) _
                refine yi_D_reti rfl ?_
                first
                | (exfalso; omega)
                | (refine ⟨_, _, rfl, hG339, Or.inl ⟨_, sp_cc (nm (V (a + 1))) (nm (V (a + 3)) - 4) (if K a = 16 then 7 else 8) (nm (V (a + 2))), ?_, hf340, hA341⟩⟩; unfold sp_cl; rw [if_pos (by omega)]; unfold sp_pair; (repeat (first | rw [if_pos (by omega)] | rw [if_neg (by omega)])); done)
                | (refine ⟨_, _, rfl, hG339, Or.inl ⟨_, sp_cc (if K a = 14 then 4 else if K a = 15 then 5 else nm (V a)) (nm (V (a + 1)) - 4) (K (a + 2) - 18) 0, ?_, hf340, hA341⟩⟩; unfold sp_cl; rw [if_neg (by omega)]; unfold sp_single; (repeat (first | rw [if_pos (by omega)] | rw [if_neg (by omega)])); done)
              · refine yi_D_if2 false rfl (yi_lt_f h343) ?_
                refine yi_D_run 3 (221, [(4, .inl z331), (3, .inl (nm (V (a + 1)) - 4)), (2, .inl 4), (1, .inl (ld 0)), (0, .inr (.inr (some 82)))], [.inl (ld 0), .inl 0, .inr (.inr (some 82))], (I334, L, R, Y), 0, 0) (fun _ => rfl) ?_
                have hlo : sp_lo (K (a + 2)) = 0 := if_neg (by omega)
                refine yi_D_callv rfl (q_takeNumber_z (lo := 0) (hi := ld 0) hW337 hf340 hA341) ?_
                rintro _ (⟨c344, c345, I346, rfl, hGa347, hf348, hA349⟩ | ⟨c350, z354, I351, rfl, hGa352, he353⟩ | ⟨c355, z359, I356, rfl, hGa357, he358⟩)
                · have hA349 : mt_A I346 te (a + 4) := hA349
                  have hW360 := mt_W_t hW337 (mt_G_F hGa347)
                  have hF361 := mt_F_t hF338 (mt_G_F hGa347)
                  have hG362 := mt_G_t hG339 hGa347
                  show yi_D zi_Ms d zi_m94 k (224, [(4, .inl z331), (3, .inl (nm (V (a + 1)) - 4)), (2, .inl 4), (1, .inl (ld 0)), (0, .inr (.inr (some 82)))], [.inl (V (a + 3))], (I346, L, R, Y), 0, 0) _
                  refine yi_D_run 6 (236, [(5, .inl (V (a + 3))), (4, .inl z331), (3, .inl (nm (V (a + 1)) - 4)), (2, .inl 4), (1, .inl (ld 0)), (0, .inr (.inr (some 82)))], [.inl (V (a + 3)), .inl z331, .inl (nm (V (a + 1)) - 4), .inl 4], (I346, L, R, Y), 0, 0) (fun _ => rfl) ?_
                  refine yi_D_calls rfl (q_clause) ?_
                  rintro _ ⟨zc, rfl⟩
                  show yi_D zi_Ms d zi_m94 k (239, [(5, .inl (V (a + 3))), (4, .inl z331), (3, .inl (nm (V (a + 1)) - 4)), (2, .inl 4), (1, .inl (ld 0)), (0, .inr (.inr (some 82)))], [.inl zc], (I346, L, R, Y), 0, 0) _
                  refine yi_D_reti rfl ?_
                  first
                  | (exfalso; omega)
                  | (refine ⟨_, _, rfl, hG362, Or.inl ⟨_, sp_cc (nm (V (a + 1))) (nm (V (a + 3)) - 4) (if K a = 16 then 7 else 8) (nm (V (a + 2))), ?_, hf348, hA349⟩⟩; unfold sp_cl; rw [if_pos (by omega)]; unfold sp_pair; (repeat (first | rw [if_pos (by omega)] | rw [if_neg (by omega)])); done)
                  | (refine ⟨_, _, rfl, hG362, Or.inl ⟨_, sp_cc (if K a = 14 then 4 else if K a = 15 then 5 else nm (V a)) (nm (V (a + 1)) - 4) (K (a + 2) - 18) (V (a + 3)), ?_, hf348, hA349⟩⟩; unfold sp_cl; rw [if_neg (by omega)]; unfold sp_single; (repeat (first | rw [if_pos (by omega)] | rw [if_neg (by omega)])); done)
                · have hW363 := mt_W_t hW337 (mt_G_F hGa352)
                  have hF364 := mt_F_t hF338 (mt_G_F hGa352)
                  have hG365 := mt_G_t hG339 hGa352
                  have hz366 : 0 < sp_f P (a + 3) 1 := mt_f_ne hW337 hA341.2 (by omega)
                  have hn367 : 0 < I351 82 8 := by rw [he353]; exact hz366
                  have hx368 : sp_cl K P V ld nm a = .inr (sp_f P (a + 3) 1) := by
                    first
                    | (exfalso; omega)
                    | (unfold sp_cl; rw [if_pos (by omega)]; unfold sp_pair; (repeat (first | rw [if_pos (by omega)] | rw [if_neg (by omega)])); done)
                    | (unfold sp_cl; rw [if_neg (by omega)]; unfold sp_single; (repeat (first | rw [if_pos (by omega)] | rw [if_neg (by omega)])); done)
                  show yi_D zi_Ms d zi_m94 k (224, [(4, .inl z331), (3, .inl (nm (V (a + 1)) - 4)), (2, .inl 4), (1, .inl (ld 0)), (0, .inr (.inr (some 82)))], [.inl z354], (I351, L, R, Y), 0, 0) _
                  refine yi_D_run 6 (236, [(5, .inl z354), (4, .inl z331), (3, .inl (nm (V (a + 1)) - 4)), (2, .inl 4), (1, .inl (ld 0)), (0, .inr (.inr (some 82)))], [.inl z354, .inl z331, .inl (nm (V (a + 1)) - 4), .inl 4], (I351, L, R, Y), 0, 0) (fun _ => rfl) ?_
                  refine yi_D_calls rfl (q_clause) ?_
                  rintro _ ⟨zc, rfl⟩
                  show yi_D zi_Ms d zi_m94 k (239, [(5, .inl z354), (4, .inl z331), (3, .inl (nm (V (a + 1)) - 4)), (2, .inl 4), (1, .inl (ld 0)), (0, .inr (.inr (some 82)))], [.inl zc], (I351, L, R, Y), 0, 0) _
                  refine yi_D_reti rfl ?_
                  exact ⟨_, _, rfl, hG365, Or.inr ⟨_, hx368, hz366, he353⟩⟩
                · have hW369 := mt_W_t hW337 (mt_G_F hGa357)
                  have hF370 := mt_F_t hF338 (mt_G_F hGa357)
                  have hG371 := mt_G_t hG339 hGa357
                  have hz372 : 0 < sp_f P (a + 3) 4 := mt_f_ne hW337 hA341.2 (by omega)
                  have hn373 : 0 < I356 82 8 := by rw [he358]; exact hz372
                  have hx374 : sp_cl K P V ld nm a = .inr (sp_f P (a + 3) 4) := by
                    first
                    | (exfalso; omega)
                    | (unfold sp_cl; rw [if_pos (by omega)]; unfold sp_pair; (repeat (first | rw [if_pos (by omega)] | rw [if_neg (by omega)])); done)
                    | (unfold sp_cl; rw [if_neg (by omega)]; unfold sp_single; (repeat (first | rw [if_pos (by omega)] | rw [if_neg (by omega)])); done)
                  show yi_D zi_Ms d zi_m94 k (224, [(4, .inl z331), (3, .inl (nm (V (a + 1)) - 4)), (2, .inl 4), (1, .inl (ld 0)), (0, .inr (.inr (some 82)))], [.inl z359], (I356, L, R, Y), 0, 0) _
                  refine yi_D_run 6 (236, [(5, .inl z359), (4, .inl z331), (3, .inl (nm (V (a + 1)) - 4)), (2, .inl 4), (1, .inl (ld 0)), (0, .inr (.inr (some 82)))], [.inl z359, .inl z331, .inl (nm (V (a + 1)) - 4), .inl 4], (I356, L, R, Y), 0, 0) (fun _ => rfl) ?_
                  refine yi_D_calls rfl (q_clause) ?_
                  rintro _ ⟨zc, rfl⟩
                  show yi_D zi_Ms d zi_m94 k (239, [(5, .inl z359), (4, .inl z331), (3, .inl (nm (V (a + 1)) - 4)), (2, .inl 4), (1, .inl (ld 0)), (0, .inr (.inr (some 82)))], [.inl zc], (I356, L, R, Y), 0, 0) _
                  refine yi_D_reti rfl ?_
                  exact ⟨_, _, rfl, hG371, Or.inr ⟨_, hx374, hz372, he358⟩⟩
            · refine yi_D_if2 false rfl (yi_gt_f h342) ?_
              refine yi_D_run 3 (206, [(4, .inl z331), (3, .inl (nm (V (a + 1)) - 4)), (2, .inl 4), (1, .inl (ld 0)), (0, .inr (.inr (some 82)))], [.inl (ld 0), .inl 1, .inr (.inr (some 82))], (I334, L, R, Y), 0, 0) (fun _ => rfl) ?_
              have hlo : sp_lo (K (a + 2)) = 1 := if_pos (by omega)
              refine yi_D_callv rfl (q_takeNumber_z (lo := 1) (hi := ld 0) hW337 hf340 hA341) ?_
              rintro _ (⟨c375, c376, I377, rfl, hGa378, hf379, hA380⟩ | ⟨c381, z385, I382, rfl, hGa383, he384⟩ | ⟨c386, z390, I387, rfl, hGa388, he389⟩)
              · have hA380 : mt_A I377 te (a + 4) := hA380
                have hW391 := mt_W_t hW337 (mt_G_F hGa378)
                have hF392 := mt_F_t hF338 (mt_G_F hGa378)
                have hG393 := mt_G_t hG339 hGa378
                show yi_D zi_Ms d zi_m94 k (209, [(4, .inl z331), (3, .inl (nm (V (a + 1)) - 4)), (2, .inl 4), (1, .inl (ld 0)), (0, .inr (.inr (some 82)))], [.inl (V (a + 3))], (I377, L, R, Y), 0, 0) _
                refine yi_D_run 6 (236, [(5, .inl (V (a + 3))), (4, .inl z331), (3, .inl (nm (V (a + 1)) - 4)), (2, .inl 4), (1, .inl (ld 0)), (0, .inr (.inr (some 82)))], [.inl (V (a + 3)), .inl z331, .inl (nm (V (a + 1)) - 4), .inl 4], (I377, L, R, Y), 0, 0) (fun _ => rfl) ?_
                refine yi_D_calls rfl (q_clause) ?_
                rintro _ ⟨zc, rfl⟩
                show yi_D zi_Ms d zi_m94 k (239, [(5, .inl (V (a + 3))), (4, .inl z331), (3, .inl (nm (V (a + 1)) - 4)), (2, .inl 4), (1, .inl (ld 0)), (0, .inr (.inr (some 82)))], [.inl zc], (I377, L, R, Y), 0, 0) _
                refine yi_D_reti rfl ?_
                first
                | (exfalso; omega)
                | (refine ⟨_, _, rfl, hG393, Or.inl ⟨_, sp_cc (nm (V (a + 1))) (nm (V (a + 3)) - 4) (if K a = 16 then 7 else 8) (nm (V (a + 2))), ?_, hf379, hA380⟩⟩; unfold sp_cl; rw [if_pos (by omega)]; unfold sp_pair; (repeat (first | rw [if_pos (by omega)] | rw [if_neg (by omega)])); done)
                | (refine ⟨_, _, rfl, hG393, Or.inl ⟨_, sp_cc (if K a = 14 then 4 else if K a = 15 then 5 else nm (V a)) (nm (V (a + 1)) - 4) (K (a + 2) - 18) (V (a + 3)), ?_, hf379, hA380⟩⟩; unfold sp_cl; rw [if_neg (by omega)]; unfold sp_single; (repeat (first | rw [if_pos (by omega)] | rw [if_neg (by omega)])); done)
              · have hW394 := mt_W_t hW337 (mt_G_F hGa383)
                have hF395 := mt_F_t hF338 (mt_G_F hGa383)
                have hG396 := mt_G_t hG339 hGa383
                have hz397 : 0 < sp_f P (a + 3) 1 := mt_f_ne hW337 hA341.2 (by omega)
                have hn398 : 0 < I382 82 8 := by rw [he384]; exact hz397
                have hx399 : sp_cl K P V ld nm a = .inr (sp_f P (a + 3) 1) := by
                  first
                  | (exfalso; omega)
                  | (unfold sp_cl; rw [if_pos (by omega)]; unfold sp_pair; (repeat (first | rw [if_pos (by omega)] | rw [if_neg (by omega)])); done)
                  | (unfold sp_cl; rw [if_neg (by omega)]; unfold sp_single; (repeat (first | rw [if_pos (by omega)] | rw [if_neg (by omega)])); done)
                show yi_D zi_Ms d zi_m94 k (209, [(4, .inl z331), (3, .inl (nm (V (a + 1)) - 4)), (2, .inl 4), (1, .inl (ld 0)), (0, .inr (.inr (some 82)))], [.inl z385], (I382, L, R, Y), 0, 0) _
                refine yi_D_run 6 (236, [(5, .inl z385), (4, .inl z331), (3, .inl (nm (V (a + 1)) - 4)), (2, .inl 4), (1, .inl (ld 0)), (0, .inr (.inr (some 82)))], [.inl z385, .inl z331, .inl (nm (V (a + 1)) - 4), .inl 4], (I382, L, R, Y), 0, 0) (fun _ => rfl) ?_
                refine yi_D_calls rfl (q_clause) ?_
                rintro _ ⟨zc, rfl⟩
                show yi_D zi_Ms d zi_m94 k (239, [(5, .inl z385), (4, .inl z331), (3, .inl (nm (V (a + 1)) - 4)), (2, .inl 4), (1, .inl (ld 0)), (0, .inr (.inr (some 82)))], [.inl zc], (I382, L, R, Y), 0, 0) _
                refine yi_D_reti rfl ?_
                exact ⟨_, _, rfl, hG396, Or.inr ⟨_, hx399, hz397, he384⟩⟩
              · have hW400 := mt_W_t hW337 (mt_G_F hGa388)
                have hF401 := mt_F_t hF338 (mt_G_F hGa388)
                have hG402 := mt_G_t hG339 hGa388
                have hz403 : 0 < sp_f P (a + 3) 4 := mt_f_ne hW337 hA341.2 (by omega)
                have hn404 : 0 < I387 82 8 := by rw [he389]; exact hz403
                have hx405 : sp_cl K P V ld nm a = .inr (sp_f P (a + 3) 4) := by
                  first
                  | (exfalso; omega)
                  | (unfold sp_cl; rw [if_pos (by omega)]; unfold sp_pair; (repeat (first | rw [if_pos (by omega)] | rw [if_neg (by omega)])); done)
                  | (unfold sp_cl; rw [if_neg (by omega)]; unfold sp_single; (repeat (first | rw [if_pos (by omega)] | rw [if_neg (by omega)])); done)
                show yi_D zi_Ms d zi_m94 k (209, [(4, .inl z331), (3, .inl (nm (V (a + 1)) - 4)), (2, .inl 4), (1, .inl (ld 0)), (0, .inr (.inr (some 82)))], [.inl z390], (I387, L, R, Y), 0, 0) _
                refine yi_D_run 6 (236, [(5, .inl z390), (4, .inl z331), (3, .inl (nm (V (a + 1)) - 4)), (2, .inl 4), (1, .inl (ld 0)), (0, .inr (.inr (some 82)))], [.inl z390, .inl z331, .inl (nm (V (a + 1)) - 4), .inl 4], (I387, L, R, Y), 0, 0) (fun _ => rfl) ?_
                refine yi_D_calls rfl (q_clause) ?_
                rintro _ ⟨zc, rfl⟩
                show yi_D zi_Ms d zi_m94 k (239, [(5, .inl z390), (4, .inl z331), (3, .inl (nm (V (a + 1)) - 4)), (2, .inl 4), (1, .inl (ld 0)), (0, .inr (.inr (some 82)))], [.inl zc], (I387, L, R, Y), 0, 0) _
                refine yi_D_reti rfl ?_
                exact ⟨_, _, rfl, hG402, Or.inr ⟨_, hx405, hz403, he389⟩⟩
          · refine yi_D_if1 false rfl (yi_ge_f h333) ?_
            refine yi_D_run 2 (182, [(4, .inl z331), (3, .inl (nm (V (a + 1)) - 4)), (2, .inl 4), (1, .inl (ld 0)), (0, .inr (.inr (some 82)))], [.inl 1, .inr (.inr (some 82))], (I309, L, R, Y), 0, 0) (fun _ => rfl) ?_
            refine yi_D_callv rfl (q_wrong_z ⟨by omega, by omega⟩ hW328 hf311 hA312) ?_
            rintro _ ⟨I406, rfl, hg407, he408⟩
            have hGw409 : mt_G I309 I406 := fun p k hp => hg407 p k (by omega)
            have hW410 := mt_W_t hW328 (mt_G_F hGw409)
            have hF411 := mt_F_t hF329 (mt_G_F hGw409)
            have hG412 := mt_G_t hG330 hGw409
            have hz413 : 0 < sp_f P (a + 2) 1 := mt_f_ne hW328 hA312.2 (by omega)
            have hn414 : 0 < I406 82 8 := by rw [he408]; exact hz413
            have hx415 : sp_cl K P V ld nm a = .inr (sp_f P (a + 2) 1) := by
              first
              | (exfalso; omega)
              | (unfold sp_cl; rw [if_pos (by omega)]; unfold sp_pair; (repeat (first | rw [if_pos (by omega)] | rw [if_neg (by omega)])); done)
              | (unfold sp_cl; rw [if_neg (by omega)]; unfold sp_single; (repeat (first | rw [if_pos (by omega)] | rw [if_neg (by omega)])); done)
            show yi_D zi_Ms d zi_m94 k (185, [(4, .inl z331), (3, .inl (nm (V (a + 1)) - 4)), (2, .inl 4), (1, .inl (ld 0)), (0, .inr (.inr (some 82)))], [], (I406, L, R, Y), 0, 0) _
            refine yi_D_run 1 (186, [(4, .inl z331), (3, .inl (nm (V (a + 1)) - 4)), (2, .inl 4), (1, .inl (ld 0)), (0, .inr (.inr (some 82)))], [.inl 0], (I406, L, R, Y), 0, 0) (fun _ => rfl) ?_
            refine yi_D_reti rfl ?_
            exact ⟨_, _, rfl, hG412, Or.inr ⟨_, hx415, hz413, he408⟩⟩
        · have hW416 := mt_W_t hW301 (mt_G_F hGa315)
          have hF417 := mt_F_t hF302 (mt_G_F hGa315)
          have hG418 := mt_G_t hG303 hGa315
          have hz419 : 0 < sp_f P (a + 1) 1 := mt_f_ne hW301 hA305.2 (by omega)
          have hn420 : 0 < I314 82 8 := by rw [he316]; exact hz419
          have hx421 : sp_cl K P V ld nm a = .inr (sp_f P (a + 1) 1) := by
            first
            | (exfalso; omega)
            | (unfold sp_cl; rw [if_pos (by omega)]; unfold sp_pair; (repeat (first | rw [if_pos (by omega)] | rw [if_neg (by omega)])); done)
            | (unfold sp_cl; rw [if_neg (by omega)]; unfold sp_single; (repeat (first | rw [if_pos (by omega)] | rw [if_neg (by omega)])); done)
          show yi_D zi_Ms d zi_m94 k (153, [(2, .inl 4), (1, .inl (ld 0)), (0, .inr (.inr (some 82)))], [.inl z317], (I314, L, R, Y), 0, 0) _
          refine yi_D_run 2 (155, [(3, .inl z317), (2, .inl 4), (1, .inl (ld 0)), (0, .inr (.inr (some 82)))], [.inr (.inr (some 82))], (I314, L, R, Y), 0, 0) (fun _ => rfl) ?_
          refine yi_D_gi (v := I314 82 8) rfl rfl rfl rfl (fun _ => ?_)
          have h422 : ¬ ((I314 82 8) ≤ 0) := by omega
          refine yi_D_if1 false rfl (yi_le_f h422) ?_
          refine yi_D_run 4 (177, [(4, .inl (-1)), (3, .inl z317), (2, .inl 4), (1, .inl (ld 0)), (0, .inr (.inr (some 82)))], [.inl (-1)], (I314, L, R, Y), 0, 0) (fun _ => rfl) ?_
          refine yi_D_if1 false rfl (by decide) ?_
          refine yi_D_run 2 (182, [(4, .inl (-1)), (3, .inl z317), (2, .inl 4), (1, .inl (ld 0)), (0, .inr (.inr (some 82)))], [.inl 1, .inr (.inr (some 82))], (I314, L, R, Y), 0, 0) (fun _ => rfl) ?_
          refine yi_D_callv rfl (q_wrong_f hW416 hn420) ?_
          rintro _ rfl
          show yi_D zi_Ms d zi_m94 k (185, [(4, .inl (-1)), (3, .inl z317), (2, .inl 4), (1, .inl (ld 0)), (0, .inr (.inr (some 82)))], [], (I314, L, R, Y), 0, 0) _
          refine yi_D_run 1 (186, [(4, .inl (-1)), (3, .inl z317), (2, .inl 4), (1, .inl (ld 0)), (0, .inr (.inr (some 82)))], [.inl 0], (I314, L, R, Y), 0, 0) (fun _ => rfl) ?_
          refine yi_D_reti rfl ?_
          exact ⟨_, _, rfl, hG418, Or.inr ⟨_, hx421, hz419, he316⟩⟩
        · have hW423 := mt_W_t hW301 (mt_G_F hGa320)
          have hF424 := mt_F_t hF302 (mt_G_F hGa320)
          have hG425 := mt_G_t hG303 hGa320
          have hz426 : 0 < sp_f P (a + 1) 2 := mt_f_ne hW301 hA305.2 (by omega)
          have hn427 : 0 < I319 82 8 := by rw [he321]; exact hz426
          have hx428 : sp_cl K P V ld nm a = .inr (sp_f P (a + 1) 2) := by
            first
            | (exfalso; omega)
            | (unfold sp_cl; rw [if_pos (by omega)]; unfold sp_pair; (repeat (first | rw [if_pos (by omega)] | rw [if_neg (by omega)])); done)
            | (unfold sp_cl; rw [if_neg (by omega)]; unfold sp_single; (repeat (first | rw [if_pos (by omega)] | rw [if_neg (by omega)])); done)
          show yi_D zi_Ms d zi_m94 k (153, [(2, .inl 4), (1, .inl (ld 0)), (0, .inr (.inr (some 82)))], [.inl z322], (I319, L, R, Y), 0, 0) _
          refine yi_D_run 2 (155, [(3, .inl z322), (2, .inl 4), (1, .inl (ld 0)), (0, .inr (.inr (some 82)))], [.inr (.inr (some 82))], (I319, L, R, Y), 0, 0) (fun _ => rfl) ?_
          refine yi_D_gi (v := I319 82 8) rfl rfl rfl rfl (fun _ => ?_)
          have h429 : ¬ ((I319 82 8) ≤ 0) := by omega
          refine yi_D_if1 false rfl (yi_le_f h429) ?_
          refine yi_D_run 4 (177, [(4, .inl (-1)), (3, .inl z322), (2, .inl 4), (1, .inl (ld 0)), (0, .inr (.inr (some 82)))], [.inl (-1)], (I319, L, R, Y), 0, 0) (fun _ => rfl) ?_
          refine yi_D_if1 false rfl (by decide) ?_
          refine yi_D_run 2 (182, [(4, .inl (-1)), (3, .inl z322), (2, .inl 4), (1, .inl (ld 0)), (0, .inr (.inr (some 82)))], [.inl 1, .inr (.inr (some 82))], (I319, L, R, Y), 0, 0) (fun _ => rfl) ?_
          refine yi_D_callv rfl (q_wrong_f hW423 hn427) ?_
          rintro _ rfl
          show yi_D zi_Ms d zi_m94 k (185, [(4, .inl (-1)), (3, .inl z322), (2, .inl 4), (1, .inl (ld 0)), (0, .inr (.inr (some 82)))], [], (I319, L, R, Y), 0, 0) _
          refine yi_D_run 1 (186, [(4, .inl (-1)), (3, .inl z322), (2, .inl 4), (1, .inl (ld 0)), (0, .inr (.inr (some 82)))], [.inl 0], (I319, L, R, Y), 0, 0) (fun _ => rfl) ?_
          refine yi_D_reti rfl ?_
          exact ⟨_, _, rfl, hG425, Or.inr ⟨_, hx428, hz426, he321⟩⟩
        · have hW430 := mt_W_t hW301 (mt_G_F hGa325)
          have hF431 := mt_F_t hF302 (mt_G_F hGa325)
          have hG432 := mt_G_t hG303 hGa325
          have hz433 : 0 < sp_f P (a + 1) 3 := mt_f_ne hW301 hA305.2 (by omega)
          have hn434 : 0 < I324 82 8 := by rw [he326]; exact hz433
          have hx435 : sp_cl K P V ld nm a = .inr (sp_f P (a + 1) 3) := by
            first
            | (exfalso; omega)
            | (unfold sp_cl; rw [if_pos (by omega)]; unfold sp_pair; (repeat (first | rw [if_pos (by omega)] | rw [if_neg (by omega)])); done)
            | (unfold sp_cl; rw [if_neg (by omega)]; unfold sp_single; (repeat (first | rw [if_pos (by omega)] | rw [if_neg (by omega)])); done)
          show yi_D zi_Ms d zi_m94 k (153, [(2, .inl 4), (1, .inl (ld 0)), (0, .inr (.inr (some 82)))], [.inl z327], (I324, L, R, Y), 0, 0) _
          refine yi_D_run 2 (155, [(3, .inl z327), (2, .inl 4), (1, .inl (ld 0)), (0, .inr (.inr (some 82)))], [.inr (.inr (some 82))], (I324, L, R, Y), 0, 0) (fun _ => rfl) ?_
          refine yi_D_gi (v := I324 82 8) rfl rfl rfl rfl (fun _ => ?_)
          have h436 : ¬ ((I324 82 8) ≤ 0) := by omega
          refine yi_D_if1 false rfl (yi_le_f h436) ?_
          refine yi_D_run 4 (177, [(4, .inl (-1)), (3, .inl z327), (2, .inl 4), (1, .inl (ld 0)), (0, .inr (.inr (some 82)))], [.inl (-1)], (I324, L, R, Y), 0, 0) (fun _ => rfl) ?_
          refine yi_D_if1 false rfl (by decide) ?_
          refine yi_D_run 2 (182, [(4, .inl (-1)), (3, .inl z327), (2, .inl 4), (1, .inl (ld 0)), (0, .inr (.inr (some 82)))], [.inl 1, .inr (.inr (some 82))], (I324, L, R, Y), 0, 0) (fun _ => rfl) ?_
          refine yi_D_callv rfl (q_wrong_f hW430 hn434) ?_
          rintro _ rfl
          show yi_D zi_Ms d zi_m94 k (185, [(4, .inl (-1)), (3, .inl z327), (2, .inl 4), (1, .inl (ld 0)), (0, .inr (.inr (some 82)))], [], (I324, L, R, Y), 0, 0) _
          refine yi_D_run 1 (186, [(4, .inl (-1)), (3, .inl z327), (2, .inl 4), (1, .inl (ld 0)), (0, .inr (.inr (some 82)))], [.inl 0], (I324, L, R, Y), 0, 0) (fun _ => rfl) ?_
          refine yi_D_reti rfl ?_
          exact ⟨_, _, rfl, hG432, Or.inr ⟨_, hx435, hz433, he326⟩⟩
      · show yi_D zi_Ms d zi_m94 k (92, [(1, .inl (ld 0)), (0, .inr (.inr (some 82)))], [.inl 0], (I, L, R, Y), 0, 0) _
        refine yi_D_if1 true rfl (by decide) ?_
        refine yi_D_run 2 (102, [(1, .inl (ld 0)), (0, .inr (.inr (some 82)))], [.inl 11, .inr (.inr (some 82))], (I, L, R, Y), 0, 0) (fun _ => rfl) ?_
        refine yi_D_callv rfl (q_isWord_z (by omega) (by omega) hW hf hA) ?_
        rintro _ (⟨c437, rfl⟩ | ⟨c437, rfl⟩)
        · show yi_D zi_Ms d zi_m94 k (105, [(1, .inl (ld 0)), (0, .inr (.inr (some 82)))], [.inl 1], (I, L, R, Y), 0, 0) _
          refine yi_D_if1 false rfl (by decide) ?_
          refine yi_D_run 5 (116, [(2, .inl 5), (1, .inl (ld 0)), (0, .inr (.inr (some 82)))], [.inr (.inr (some 82)), .inr (.inr (some 82))], (I, L, R, Y), 0, 0) (fun _ => rfl) ?_
          refine yi_D_gi (v := (a : Int)) rfl rfl rfl hA.1 (fun _ => ?_)
          refine yi_D_run 1 (120, [(2, .inl 5), (1, .inl (ld 0)), (0, .inr (.inr (some 82)))], [.inl 5, .inl (a : Int), .inr (.inr (some 82))], (I, L, R, Y), 0, 0) (fun _ => rfl) ?_
          refine yi_D_if1 true rfl (by decide) ?_
          refine yi_D_run 1 (128, [(2, .inl 5), (1, .inl (ld 0)), (0, .inr (.inr (some 82)))], [.inl 1, .inl (a : Int), .inr (.inr (some 82))], (I, L, R, Y), 0, 0) (fun _ => rfl) ?_
          refine yi_D_iadd rfl ((a : Int) + 1) (yi_wn (by omega) (by omega)) ?_
          refine yi_D_pi rfl (fun _ => ?_)
          generalize w439 : yi_u I 82 7 ((a : Int) + 1) = I438
          have hGn440 : mt_G I I438 := fun p k hp => by rw [← w439, yi_u_ne _ _ (by omega)]
          have hW441 := mt_W_t hW (mt_G_F hGn440)
          have hF442 := (mt_G_F hGn440)
          have hG443 := hGn440
          have hf444 : I438 82 8 = 0 := by rw [← w439, yi_u_ne _ _ (by omega)]; exact hf
          have hA445 : mt_A I438 te (a + 1) := ⟨by rw [← w439, yi_u_eq]; omega, mt_lt hW441.2.1 hA.2 (by omega)⟩
          refine yi_D_run 1 (133, [(2, .inl 5), (1, .inl (ld 0)), (0, .inr (.inr (some 82)))], [.inl 5], (I438, L, R, Y), 0, 0) (fun _ => rfl) ?_
          refine yi_D_if1 true rfl (by decide) ?_
          refine yi_D_run 5 (150, [(2, .inl 5), (1, .inl (ld 0)), (0, .inr (.inr (some 82)))], [.inl (-1), .inl 1, .inr (.inr (some 82))], (I438, L, R, Y), 0, 0) (fun _ => rfl) ?_
          refine yi_D_callv rfl (q_takeTold1_z (bt := (-1)) hW441 hf444 hA445) ?_
          rintro _ (⟨c446, c447, c448, I449, rfl, hGa450, hf451, hA452⟩ | ⟨c453, z457, I454, rfl, hGa455, he456⟩ | ⟨c458, z462, I459, rfl, hGa460, he461⟩ | ⟨c463, z467, I464, rfl, hGa465, he466⟩)
          · have hA452 : mt_A I449 te (a + 2) := hA452
            have hW468 := mt_W_t hW441 (mt_G_F hGa450)
            have hF469 := mt_F_t hF442 (mt_G_F hGa450)
            have hG470 := mt_G_t hG443 hGa450
            show yi_D zi_Ms d zi_m94 k (153, [(2, .inl 5), (1, .inl (ld 0)), (0, .inr (.inr (some 82)))], [.inl (nm (V (a + 1)) - 4)], (I449, L, R, Y), 0, 0) _
            refine yi_D_run 2 (155, [(3, .inl (nm (V (a + 1)) - 4)), (2, .inl 5), (1, .inl (ld 0)), (0, .inr (.inr (some 82)))], [.inr (.inr (some 82))], (I449, L, R, Y), 0, 0) (fun _ => rfl) ?_
            refine yi_D_gi (v := 0) rfl rfl rfl hf451 (fun _ => ?_)
            refine yi_D_if1 true rfl (by decide) ?_
            refine yi_D_run 3 (170, [(3, .inl (nm (V (a + 1)) - 4)), (2, .inl 5), (1, .inl (ld 0)), (0, .inr (.inr (some 82)))], [.inl 7, .inl 14, .inr (.inr (some 82))], (I449, L, R, Y), 0, 0) (fun _ => rfl) ?_
            refine yi_D_callv rfl (q_wordHere_z (by omega) (by omega) (by omega) hW468 hf451 hA452) ?_
            rintro _ ⟨z471, rfl, hz472⟩
            show yi_D zi_Ms d zi_m94 k (173, [(3, .inl (nm (V (a + 1)) - 4)), (2, .inl 5), (1, .inl (ld 0)), (0, .inr (.inr (some 82)))], [.inl z471], (I449, L, R, Y), 0, 0) _
            refine yi_D_run 2 (177, [(4, .inl z471), (3, .inl (nm (V (a + 1)) - 4)), (2, .inl 5), (1, .inl (ld 0)), (0, .inr (.inr (some 82)))], [.inl z471], (I449, L, R, Y), 0, 0) (fun _ => rfl) ?_
            by_cases h473 : 0 ≤ z471
            · refine yi_D_if1 true rfl (yi_ge_t h473) ?_
              refine yi_D_run 2 (189, [(4, .inl z471), (3, .inl (nm (V (a + 1)) - 4)), (2, .inl 5), (1, .inl (ld 0)), (0, .inr (.inr (some 82)))], [.inr (.inr (some 82)), .inr (.inr (some 82))], (I449, L, R, Y), 0, 0) (fun _ => rfl) ?_
              refine yi_D_gi (v := ((a + 2 : Nat) : Int)) rfl rfl rfl hA452.1 (fun _ => ?_)
              refine yi_D_run 1 (193, [(4, .inl z471), (3, .inl (nm (V (a + 1)) - 4)), (2, .inl 5), (1, .inl (ld 0)), (0, .inr (.inr (some 82)))], [.inl 1, .inl ((a + 2 : Nat) : Int), .inr (.inr (some 82))], (I449, L, R, Y), 0, 0) (fun _ => rfl) ?_
              refine yi_D_iadd rfl (((a + 2 : Nat) : Int) + 1) (yi_wn (by omega) (by omega)) ?_
              refine yi_D_pi rfl (fun _ => ?_)
              generalize w475 : yi_u I449 82 7 (((a + 2 : Nat) : Int) + 1) = I474
              have hGn476 : mt_G I449 I474 := fun p k hp => by rw [← w475, yi_u_ne _ _ (by omega)]
              have hW477 := mt_W_t hW468 (mt_G_F hGn476)
              have hF478 := mt_F_t hF469 (mt_G_F hGn476)
              have hG479 := mt_G_t hG470 hGn476
              have hf480 : I474 82 8 = 0 := by rw [← w475, yi_u_ne _ _ (by omega)]; exact hf451
              have hA481 : mt_A I474 te (a + 3) := ⟨by rw [← w475, yi_u_eq]; omega, mt_lt hW477.2.1 hA452.2 (by omega)⟩
              refine yi_D_run 2 (200, [(4, .inl z471), (3, .inl (nm (V (a + 1)) - 4)), (2, .inl 5), (1, .inl (ld 0)), (0, .inr (.inr (some 82)))], [.inl 2, .inl z471], (I474, L, R, Y), 0, 0) (fun _ => rfl) ?_
              by_cases h482 : 2 < z471
              · refine yi_D_if2 true rfl (yi_gt_t h482) ?_
                refine yi_D_run 2 (215, [(4, .inl z471), (3, .inl (nm (V (a + 1)) - 4)), (2, .inl 5), (1, .inl (ld 0)), (0, .inr (.inr (some 82)))], [.inl 5, .inl z471], (I474, L, R, Y), 0, 0) (fun _ => rfl) ?_
                by_cases h483 : z471 < 5
                · refine yi_D_if2 true rfl (yi_lt_t h483) ?_
                  refine yi_D_run 6 (236, [(5, .inl 0), (4, .inl z471), (3, .inl (nm (V (a + 1)) - 4)), (2, .inl 5), (1, .inl (ld 0)), (0, .inr (.inr (some 82)))], [.inl 0, .inl z471, .inl (nm (V (a + 1)) - 4), .inl 5], (I474, L, R, Y), 0, 0) (fun _ => rfl) ?_
                  refine yi_D_calls rfl (q_clause) ?_
                  rintro _ ⟨zc, rfl⟩
                  show yi_D zi_Ms d zi_m94 k (239, [(5, .inl 0), (4, .inl z471), (3, .inl (nm (V (a + 1)) - 4)), (2, .inl 5), (1, .inl (ld 0)), (0, .inr (.inr (some 82)))], [.inl zc], (I474, L, R, Y), 0, 0) _
                  refine yi_D_reti rfl ?_
                  first
                  | (exfalso; omega)
                  | (refine ⟨_, _, rfl, hG479, Or.inl ⟨_, sp_cc (nm (V (a + 1))) (nm (V (a + 3)) - 4) (if K a = 16 then 7 else 8) (nm (V (a + 2))), ?_, hf480, hA481⟩⟩; unfold sp_cl; rw [if_pos (by omega)]; unfold sp_pair; (repeat (first | rw [if_pos (by omega)] | rw [if_neg (by omega)])); done)
                  | (refine ⟨_, _, rfl, hG479, Or.inl ⟨_, sp_cc (if K a = 14 then 4 else if K a = 15 then 5 else nm (V a)) (nm (V (a + 1)) - 4) (K (a + 2) - 18) 0, ?_, hf480, hA481⟩⟩; unfold sp_cl; rw [if_neg (by omega)]; unfold sp_single; (repeat (first | rw [if_pos (by omega)] | rw [if_neg (by omega)])); done)
                · refine yi_D_if2 false rfl (yi_lt_f h483) ?_
                  refine yi_D_run 3 (221, [(4, .inl z471), (3, .inl (nm (V (a + 1)) - 4)), (2, .inl 5), (1, .inl (ld 0)), (0, .inr (.inr (some 82)))], [.inl (ld 0), .inl 0, .inr (.inr (some 82))], (I474, L, R, Y), 0, 0) (fun _ => rfl) ?_
                  have hlo : sp_lo (K (a + 2)) = 0 := if_neg (by omega)
                  refine yi_D_callv rfl (q_takeNumber_z (lo := 0) (hi := ld 0) hW477 hf480 hA481) ?_
                  rintro _ (⟨c484, c485, I486, rfl, hGa487, hf488, hA489⟩ | ⟨c490, z494, I491, rfl, hGa492, he493⟩ | ⟨c495, z499, I496, rfl, hGa497, he498⟩)
                  · have hA489 : mt_A I486 te (a + 4) := hA489
                    have hW500 := mt_W_t hW477 (mt_G_F hGa487)
                    have hF501 := mt_F_t hF478 (mt_G_F hGa487)
                    have hG502 := mt_G_t hG479 hGa487
                    show yi_D zi_Ms d zi_m94 k (224, [(4, .inl z471), (3, .inl (nm (V (a + 1)) - 4)), (2, .inl 5), (1, .inl (ld 0)), (0, .inr (.inr (some 82)))], [.inl (V (a + 3))], (I486, L, R, Y), 0, 0) _
                    refine yi_D_run 6 (236, [(5, .inl (V (a + 3))), (4, .inl z471), (3, .inl (nm (V (a + 1)) - 4)), (2, .inl 5), (1, .inl (ld 0)), (0, .inr (.inr (some 82)))], [.inl (V (a + 3)), .inl z471, .inl (nm (V (a + 1)) - 4), .inl 5], (I486, L, R, Y), 0, 0) (fun _ => rfl) ?_
                    refine yi_D_calls rfl (q_clause) ?_
                    rintro _ ⟨zc, rfl⟩
                    show yi_D zi_Ms d zi_m94 k (239, [(5, .inl (V (a + 3))), (4, .inl z471), (3, .inl (nm (V (a + 1)) - 4)), (2, .inl 5), (1, .inl (ld 0)), (0, .inr (.inr (some 82)))], [.inl zc], (I486, L, R, Y), 0, 0) _
                    refine yi_D_reti rfl ?_
                    first
                    | (exfalso; omega)
                    | (refine ⟨_, _, rfl, hG502, Or.inl ⟨_, sp_cc (nm (V (a + 1))) (nm (V (a + 3)) - 4) (if K a = 16 then 7 else 8) (nm (V (a + 2))), ?_, hf488, hA489⟩⟩; unfold sp_cl; rw [if_pos (by omega)]; unfold sp_pair; (repeat (first | rw [if_pos (by omega)] | rw [if_neg (by omega)])); done)
                    | (refine ⟨_, _, rfl, hG502, Or.inl ⟨_, sp_cc (if K a = 14 then 4 else if K a = 15 then 5 else nm (V a)) (nm (V (a + 1)) - 4) (K (a + 2) - 18) (V (a + 3)), ?_, hf488, hA489⟩⟩; unfold sp_cl; rw [if_neg (by omega)]; unfold sp_single; (repeat (first | rw [if_pos (by omega)] | rw [if_neg (by omega)])); done)
                  · have hW503 := mt_W_t hW477 (mt_G_F hGa492)
                    have hF504 := mt_F_t hF478 (mt_G_F hGa492)
                    have hG505 := mt_G_t hG479 hGa492
                    have hz506 : 0 < sp_f P (a + 3) 1 := mt_f_ne hW477 hA481.2 (by omega)
                    have hn507 : 0 < I491 82 8 := by rw [he493]; exact hz506
                    have hx508 : sp_cl K P V ld nm a = .inr (sp_f P (a + 3) 1) := by
                      first
                      | (exfalso; omega)
                      | (unfold sp_cl; rw [if_pos (by omega)]; unfold sp_pair; (repeat (first | rw [if_pos (by omega)] | rw [if_neg (by omega)])); done)
                      | (unfold sp_cl; rw [if_neg (by omega)]; unfold sp_single; (repeat (first | rw [if_pos (by omega)] | rw [if_neg (by omega)])); done)
                    show yi_D zi_Ms d zi_m94 k (224, [(4, .inl z471), (3, .inl (nm (V (a + 1)) - 4)), (2, .inl 5), (1, .inl (ld 0)), (0, .inr (.inr (some 82)))], [.inl z494], (I491, L, R, Y), 0, 0) _
                    refine yi_D_run 6 (236, [(5, .inl z494), (4, .inl z471), (3, .inl (nm (V (a + 1)) - 4)), (2, .inl 5), (1, .inl (ld 0)), (0, .inr (.inr (some 82)))], [.inl z494, .inl z471, .inl (nm (V (a + 1)) - 4), .inl 5], (I491, L, R, Y), 0, 0) (fun _ => rfl) ?_
                    refine yi_D_calls rfl (q_clause) ?_
                    rintro _ ⟨zc, rfl⟩
                    show yi_D zi_Ms d zi_m94 k (239, [(5, .inl z494), (4, .inl z471), (3, .inl (nm (V (a + 1)) - 4)), (2, .inl 5), (1, .inl (ld 0)), (0, .inr (.inr (some 82)))], [.inl zc], (I491, L, R, Y), 0, 0) _
                    refine yi_D_reti rfl ?_
                    exact ⟨_, _, rfl, hG505, Or.inr ⟨_, hx508, hz506, he493⟩⟩
                  · have hW509 := mt_W_t hW477 (mt_G_F hGa497)
                    have hF510 := mt_F_t hF478 (mt_G_F hGa497)
                    have hG511 := mt_G_t hG479 hGa497
                    have hz512 : 0 < sp_f P (a + 3) 4 := mt_f_ne hW477 hA481.2 (by omega)
                    have hn513 : 0 < I496 82 8 := by rw [he498]; exact hz512
                    have hx514 : sp_cl K P V ld nm a = .inr (sp_f P (a + 3) 4) := by
                      first
                      | (exfalso; omega)
                      | (unfold sp_cl; rw [if_pos (by omega)]; unfold sp_pair; (repeat (first | rw [if_pos (by omega)] | rw [if_neg (by omega)])); done)
                      | (unfold sp_cl; rw [if_neg (by omega)]; unfold sp_single; (repeat (first | rw [if_pos (by omega)] | rw [if_neg (by omega)])); done)
                    show yi_D zi_Ms d zi_m94 k (224, [(4, .inl z471), (3, .inl (nm (V (a + 1)) - 4)), (2, .inl 5), (1, .inl (ld 0)), (0, .inr (.inr (some 82)))], [.inl z499], (I496, L, R, Y), 0, 0) _
                    refine yi_D_run 6 (236, [(5, .inl z499), (4, .inl z471), (3, .inl (nm (V (a + 1)) - 4)), (2, .inl 5), (1, .inl (ld 0)), (0, .inr (.inr (some 82)))], [.inl z499, .inl z471, .inl (nm (V (a + 1)) - 4), .inl 5], (I496, L, R, Y), 0, 0) (fun _ => rfl) ?_
                    refine yi_D_calls rfl (q_clause) ?_
                    rintro _ ⟨zc, rfl⟩
                    show yi_D zi_Ms d zi_m94 k (239, [(5, .inl z499), (4, .inl z471), (3, .inl (nm (V (a + 1)) - 4)), (2, .inl 5), (1, .inl (ld 0)), (0, .inr (.inr (some 82)))], [.inl zc], (I496, L, R, Y), 0, 0) _
                    refine yi_D_reti rfl ?_
                    exact ⟨_, _, rfl, hG511, Or.inr ⟨_, hx514, hz512, he498⟩⟩
              · refine yi_D_if2 false rfl (yi_gt_f h482) ?_
                refine yi_D_run 3 (206, [(4, .inl z471), (3, .inl (nm (V (a + 1)) - 4)), (2, .inl 5), (1, .inl (ld 0)), (0, .inr (.inr (some 82)))], [.inl (ld 0), .inl 1, .inr (.inr (some 82))], (I474, L, R, Y), 0, 0) (fun _ => rfl) ?_
                have hlo : sp_lo (K (a + 2)) = 1 := if_pos (by omega)
                refine yi_D_callv rfl (q_takeNumber_z (lo := 1) (hi := ld 0) hW477 hf480 hA481) ?_
                rintro _ (⟨c515, c516, I517, rfl, hGa518, hf519, hA520⟩ | ⟨c521, z525, I522, rfl, hGa523, he524⟩ | ⟨c526, z530, I527, rfl, hGa528, he529⟩)
                · have hA520 : mt_A I517 te (a + 4) := hA520
                  have hW531 := mt_W_t hW477 (mt_G_F hGa518)
                  have hF532 := mt_F_t hF478 (mt_G_F hGa518)
                  have hG533 := mt_G_t hG479 hGa518
                  show yi_D zi_Ms d zi_m94 k (209, [(4, .inl z471), (3, .inl (nm (V (a + 1)) - 4)), (2, .inl 5), (1, .inl (ld 0)), (0, .inr (.inr (some 82)))], [.inl (V (a + 3))], (I517, L, R, Y), 0, 0) _
                  refine yi_D_run 6 (236, [(5, .inl (V (a + 3))), (4, .inl z471), (3, .inl (nm (V (a + 1)) - 4)), (2, .inl 5), (1, .inl (ld 0)), (0, .inr (.inr (some 82)))], [.inl (V (a + 3)), .inl z471, .inl (nm (V (a + 1)) - 4), .inl 5], (I517, L, R, Y), 0, 0) (fun _ => rfl) ?_
                  refine yi_D_calls rfl (q_clause) ?_
                  rintro _ ⟨zc, rfl⟩
                  show yi_D zi_Ms d zi_m94 k (239, [(5, .inl (V (a + 3))), (4, .inl z471), (3, .inl (nm (V (a + 1)) - 4)), (2, .inl 5), (1, .inl (ld 0)), (0, .inr (.inr (some 82)))], [.inl zc], (I517, L, R, Y), 0, 0) _
                  refine yi_D_reti rfl ?_
                  first
                  | (exfalso; omega)
                  | (refine ⟨_, _, rfl, hG533, Or.inl ⟨_, sp_cc (nm (V (a + 1))) (nm (V (a + 3)) - 4) (if K a = 16 then 7 else 8) (nm (V (a + 2))), ?_, hf519, hA520⟩⟩; unfold sp_cl; rw [if_pos (by omega)]; unfold sp_pair; (repeat (first | rw [if_pos (by omega)] | rw [if_neg (by omega)])); done)
                  | (refine ⟨_, _, rfl, hG533, Or.inl ⟨_, sp_cc (if K a = 14 then 4 else if K a = 15 then 5 else nm (V a)) (nm (V (a + 1)) - 4) (K (a + 2) - 18) (V (a + 3)), ?_, hf519, hA520⟩⟩; unfold sp_cl; rw [if_neg (by omega)]; unfold sp_single; (repeat (first | rw [if_pos (by omega)] | rw [if_neg (by omega)])); done)
                · have hW534 := mt_W_t hW477 (mt_G_F hGa523)
                  have hF535 := mt_F_t hF478 (mt_G_F hGa523)
                  have hG536 := mt_G_t hG479 hGa523
                  have hz537 : 0 < sp_f P (a + 3) 1 := mt_f_ne hW477 hA481.2 (by omega)
                  have hn538 : 0 < I522 82 8 := by rw [he524]; exact hz537
                  have hx539 : sp_cl K P V ld nm a = .inr (sp_f P (a + 3) 1) := by
                    first
                    | (exfalso; omega)
                    | (unfold sp_cl; rw [if_pos (by omega)]; unfold sp_pair; (repeat (first | rw [if_pos (by omega)] | rw [if_neg (by omega)])); done)
                    | (unfold sp_cl; rw [if_neg (by omega)]; unfold sp_single; (repeat (first | rw [if_pos (by omega)] | rw [if_neg (by omega)])); done)
                  show yi_D zi_Ms d zi_m94 k (209, [(4, .inl z471), (3, .inl (nm (V (a + 1)) - 4)), (2, .inl 5), (1, .inl (ld 0)), (0, .inr (.inr (some 82)))], [.inl z525], (I522, L, R, Y), 0, 0) _
                  refine yi_D_run 6 (236, [(5, .inl z525), (4, .inl z471), (3, .inl (nm (V (a + 1)) - 4)), (2, .inl 5), (1, .inl (ld 0)), (0, .inr (.inr (some 82)))], [.inl z525, .inl z471, .inl (nm (V (a + 1)) - 4), .inl 5], (I522, L, R, Y), 0, 0) (fun _ => rfl) ?_
                  refine yi_D_calls rfl (q_clause) ?_
                  rintro _ ⟨zc, rfl⟩
                  show yi_D zi_Ms d zi_m94 k (239, [(5, .inl z525), (4, .inl z471), (3, .inl (nm (V (a + 1)) - 4)), (2, .inl 5), (1, .inl (ld 0)), (0, .inr (.inr (some 82)))], [.inl zc], (I522, L, R, Y), 0, 0) _
                  refine yi_D_reti rfl ?_
                  exact ⟨_, _, rfl, hG536, Or.inr ⟨_, hx539, hz537, he524⟩⟩
                · have hW540 := mt_W_t hW477 (mt_G_F hGa528)
                  have hF541 := mt_F_t hF478 (mt_G_F hGa528)
                  have hG542 := mt_G_t hG479 hGa528
                  have hz543 : 0 < sp_f P (a + 3) 4 := mt_f_ne hW477 hA481.2 (by omega)
                  have hn544 : 0 < I527 82 8 := by rw [he529]; exact hz543
                  have hx545 : sp_cl K P V ld nm a = .inr (sp_f P (a + 3) 4) := by
                    first
                    | (exfalso; omega)
                    | (unfold sp_cl; rw [if_pos (by omega)]; unfold sp_pair; (repeat (first | rw [if_pos (by omega)] | rw [if_neg (by omega)])); done)
                    | (unfold sp_cl; rw [if_neg (by omega)]; unfold sp_single; (repeat (first | rw [if_pos (by omega)] | rw [if_neg (by omega)])); done)
                  show yi_D zi_Ms d zi_m94 k (209, [(4, .inl z471), (3, .inl (nm (V (a + 1)) - 4)), (2, .inl 5), (1, .inl (ld 0)), (0, .inr (.inr (some 82)))], [.inl z530], (I527, L, R, Y), 0, 0) _
                  refine yi_D_run 6 (236, [(5, .inl z530), (4, .inl z471), (3, .inl (nm (V (a + 1)) - 4)), (2, .inl 5), (1, .inl (ld 0)), (0, .inr (.inr (some 82)))], [.inl z530, .inl z471, .inl (nm (V (a + 1)) - 4), .inl 5], (I527, L, R, Y), 0, 0) (fun _ => rfl) ?_
                  refine yi_D_calls rfl (q_clause) ?_
                  rintro _ ⟨zc, rfl⟩
                  show yi_D zi_Ms d zi_m94 k (239, [(5, .inl z530), (4, .inl z471), (3, .inl (nm (V (a + 1)) - 4)), (2, .inl 5), (1, .inl (ld 0)), (0, .inr (.inr (some 82)))], [.inl zc], (I527, L, R, Y), 0, 0) _
                  refine yi_D_reti rfl ?_
                  exact ⟨_, _, rfl, hG542, Or.inr ⟨_, hx545, hz543, he529⟩⟩
            · refine yi_D_if1 false rfl (yi_ge_f h473) ?_
              refine yi_D_run 2 (182, [(4, .inl z471), (3, .inl (nm (V (a + 1)) - 4)), (2, .inl 5), (1, .inl (ld 0)), (0, .inr (.inr (some 82)))], [.inl 1, .inr (.inr (some 82))], (I449, L, R, Y), 0, 0) (fun _ => rfl) ?_
              refine yi_D_callv rfl (q_wrong_z ⟨by omega, by omega⟩ hW468 hf451 hA452) ?_
              rintro _ ⟨I546, rfl, hg547, he548⟩
              have hGw549 : mt_G I449 I546 := fun p k hp => hg547 p k (by omega)
              have hW550 := mt_W_t hW468 (mt_G_F hGw549)
              have hF551 := mt_F_t hF469 (mt_G_F hGw549)
              have hG552 := mt_G_t hG470 hGw549
              have hz553 : 0 < sp_f P (a + 2) 1 := mt_f_ne hW468 hA452.2 (by omega)
              have hn554 : 0 < I546 82 8 := by rw [he548]; exact hz553
              have hx555 : sp_cl K P V ld nm a = .inr (sp_f P (a + 2) 1) := by
                first
                | (exfalso; omega)
                | (unfold sp_cl; rw [if_pos (by omega)]; unfold sp_pair; (repeat (first | rw [if_pos (by omega)] | rw [if_neg (by omega)])); done)
                | (unfold sp_cl; rw [if_neg (by omega)]; unfold sp_single; (repeat (first | rw [if_pos (by omega)] | rw [if_neg (by omega)])); done)
              show yi_D zi_Ms d zi_m94 k (185, [(4, .inl z471), (3, .inl (nm (V (a + 1)) - 4)), (2, .inl 5), (1, .inl (ld 0)), (0, .inr (.inr (some 82)))], [], (I546, L, R, Y), 0, 0) _
              refine yi_D_run 1 (186, [(4, .inl z471), (3, .inl (nm (V (a + 1)) - 4)), (2, .inl 5), (1, .inl (ld 0)), (0, .inr (.inr (some 82)))], [.inl 0], (I546, L, R, Y), 0, 0) (fun _ => rfl) ?_
              refine yi_D_reti rfl ?_
              exact ⟨_, _, rfl, hG552, Or.inr ⟨_, hx555, hz553, he548⟩⟩
          · have hW556 := mt_W_t hW441 (mt_G_F hGa455)
            have hF557 := mt_F_t hF442 (mt_G_F hGa455)
            have hG558 := mt_G_t hG443 hGa455
            have hz559 : 0 < sp_f P (a + 1) 1 := mt_f_ne hW441 hA445.2 (by omega)
            have hn560 : 0 < I454 82 8 := by rw [he456]; exact hz559
            have hx561 : sp_cl K P V ld nm a = .inr (sp_f P (a + 1) 1) := by
              first
              | (exfalso; omega)
              | (unfold sp_cl; rw [if_pos (by omega)]; unfold sp_pair; (repeat (first | rw [if_pos (by omega)] | rw [if_neg (by omega)])); done)
              | (unfold sp_cl; rw [if_neg (by omega)]; unfold sp_single; (repeat (first | rw [if_pos (by omega)] | rw [if_neg (by omega)])); done)
            show yi_D zi_Ms d zi_m94 k (153, [(2, .inl 5), (1, .inl (ld 0)), (0, .inr (.inr (some 82)))], [.inl z457], (I454, L, R, Y), 0, 0) _
            refine yi_D_run 2 (155, [(3, .inl z457), (2, .inl 5), (1, .inl (ld 0)), (0, .inr (.inr (some 82)))], [.inr (.inr (some 82))], (I454, L, R, Y), 0, 0) (fun _ => rfl) ?_
            refine yi_D_gi (v := I454 82 8) rfl rfl rfl rfl (fun _ => ?_)
            have h562 : ¬ ((I454 82 8) ≤ 0) := by omega
            refine yi_D_if1 false rfl (yi_le_f h562) ?_
            refine yi_D_run 4 (177, [(4, .inl (-1)), (3, .inl z457), (2, .inl 5), (1, .inl (ld 0)), (0, .inr (.inr (some 82)))], [.inl (-1)], (I454, L, R, Y), 0, 0) (fun _ => rfl) ?_
            refine yi_D_if1 false rfl (by decide) ?_
            refine yi_D_run 2 (182, [(4, .inl (-1)), (3, .inl z457), (2, .inl 5), (1, .inl (ld 0)), (0, .inr (.inr (some 82)))], [.inl 1, .inr (.inr (some 82))], (I454, L, R, Y), 0, 0) (fun _ => rfl) ?_
            refine yi_D_callv rfl (q_wrong_f hW556 hn560) ?_
            rintro _ rfl
            show yi_D zi_Ms d zi_m94 k (185, [(4, .inl (-1)), (3, .inl z457), (2, .inl 5), (1, .inl (ld 0)), (0, .inr (.inr (some 82)))], [], (I454, L, R, Y), 0, 0) _
            refine yi_D_run 1 (186, [(4, .inl (-1)), (3, .inl z457), (2, .inl 5), (1, .inl (ld 0)), (0, .inr (.inr (some 82)))], [.inl 0], (I454, L, R, Y), 0, 0) (fun _ => rfl) ?_
            refine yi_D_reti rfl ?_
            exact ⟨_, _, rfl, hG558, Or.inr ⟨_, hx561, hz559, he456⟩⟩
          · have hW563 := mt_W_t hW441 (mt_G_F hGa460)
            have hF564 := mt_F_t hF442 (mt_G_F hGa460)
            have hG565 := mt_G_t hG443 hGa460
            have hz566 : 0 < sp_f P (a + 1) 2 := mt_f_ne hW441 hA445.2 (by omega)
            have hn567 : 0 < I459 82 8 := by rw [he461]; exact hz566
            have hx568 : sp_cl K P V ld nm a = .inr (sp_f P (a + 1) 2) := by
              first
              | (exfalso; omega)
              | (unfold sp_cl; rw [if_pos (by omega)]; unfold sp_pair; (repeat (first | rw [if_pos (by omega)] | rw [if_neg (by omega)])); done)
              | (unfold sp_cl; rw [if_neg (by omega)]; unfold sp_single; (repeat (first | rw [if_pos (by omega)] | rw [if_neg (by omega)])); done)
            show yi_D zi_Ms d zi_m94 k (153, [(2, .inl 5), (1, .inl (ld 0)), (0, .inr (.inr (some 82)))], [.inl z462], (I459, L, R, Y), 0, 0) _
            refine yi_D_run 2 (155, [(3, .inl z462), (2, .inl 5), (1, .inl (ld 0)), (0, .inr (.inr (some 82)))], [.inr (.inr (some 82))], (I459, L, R, Y), 0, 0) (fun _ => rfl) ?_
            refine yi_D_gi (v := I459 82 8) rfl rfl rfl rfl (fun _ => ?_)
            have h569 : ¬ ((I459 82 8) ≤ 0) := by omega
            refine yi_D_if1 false rfl (yi_le_f h569) ?_
            refine yi_D_run 4 (177, [(4, .inl (-1)), (3, .inl z462), (2, .inl 5), (1, .inl (ld 0)), (0, .inr (.inr (some 82)))], [.inl (-1)], (I459, L, R, Y), 0, 0) (fun _ => rfl) ?_
            refine yi_D_if1 false rfl (by decide) ?_
            refine yi_D_run 2 (182, [(4, .inl (-1)), (3, .inl z462), (2, .inl 5), (1, .inl (ld 0)), (0, .inr (.inr (some 82)))], [.inl 1, .inr (.inr (some 82))], (I459, L, R, Y), 0, 0) (fun _ => rfl) ?_
            refine yi_D_callv rfl (q_wrong_f hW563 hn567) ?_
            rintro _ rfl
            show yi_D zi_Ms d zi_m94 k (185, [(4, .inl (-1)), (3, .inl z462), (2, .inl 5), (1, .inl (ld 0)), (0, .inr (.inr (some 82)))], [], (I459, L, R, Y), 0, 0) _
            refine yi_D_run 1 (186, [(4, .inl (-1)), (3, .inl z462), (2, .inl 5), (1, .inl (ld 0)), (0, .inr (.inr (some 82)))], [.inl 0], (I459, L, R, Y), 0, 0) (fun _ => rfl) ?_
            refine yi_D_reti rfl ?_
            exact ⟨_, _, rfl, hG565, Or.inr ⟨_, hx568, hz566, he461⟩⟩
          · have hW570 := mt_W_t hW441 (mt_G_F hGa465)
            have hF571 := mt_F_t hF442 (mt_G_F hGa465)
            have hG572 := mt_G_t hG443 hGa465
            have hz573 : 0 < sp_f P (a + 1) 3 := mt_f_ne hW441 hA445.2 (by omega)
            have hn574 : 0 < I464 82 8 := by rw [he466]; exact hz573
            have hx575 : sp_cl K P V ld nm a = .inr (sp_f P (a + 1) 3) := by
              first
              | (exfalso; omega)
              | (unfold sp_cl; rw [if_pos (by omega)]; unfold sp_pair; (repeat (first | rw [if_pos (by omega)] | rw [if_neg (by omega)])); done)
              | (unfold sp_cl; rw [if_neg (by omega)]; unfold sp_single; (repeat (first | rw [if_pos (by omega)] | rw [if_neg (by omega)])); done)
            show yi_D zi_Ms d zi_m94 k (153, [(2, .inl 5), (1, .inl (ld 0)), (0, .inr (.inr (some 82)))], [.inl z467], (I464, L, R, Y), 0, 0) _
            refine yi_D_run 2 (155, [(3, .inl z467), (2, .inl 5), (1, .inl (ld 0)), (0, .inr (.inr (some 82)))], [.inr (.inr (some 82))], (I464, L, R, Y), 0, 0) (fun _ => rfl) ?_
            refine yi_D_gi (v := I464 82 8) rfl rfl rfl rfl (fun _ => ?_)
            have h576 : ¬ ((I464 82 8) ≤ 0) := by omega
            refine yi_D_if1 false rfl (yi_le_f h576) ?_
            refine yi_D_run 4 (177, [(4, .inl (-1)), (3, .inl z467), (2, .inl 5), (1, .inl (ld 0)), (0, .inr (.inr (some 82)))], [.inl (-1)], (I464, L, R, Y), 0, 0) (fun _ => rfl) ?_
            refine yi_D_if1 false rfl (by decide) ?_
            refine yi_D_run 2 (182, [(4, .inl (-1)), (3, .inl z467), (2, .inl 5), (1, .inl (ld 0)), (0, .inr (.inr (some 82)))], [.inl 1, .inr (.inr (some 82))], (I464, L, R, Y), 0, 0) (fun _ => rfl) ?_
            refine yi_D_callv rfl (q_wrong_f hW570 hn574) ?_
            rintro _ rfl
            show yi_D zi_Ms d zi_m94 k (185, [(4, .inl (-1)), (3, .inl z467), (2, .inl 5), (1, .inl (ld 0)), (0, .inr (.inr (some 82)))], [], (I464, L, R, Y), 0, 0) _
            refine yi_D_run 1 (186, [(4, .inl (-1)), (3, .inl z467), (2, .inl 5), (1, .inl (ld 0)), (0, .inr (.inr (some 82)))], [.inl 0], (I464, L, R, Y), 0, 0) (fun _ => rfl) ?_
            refine yi_D_reti rfl ?_
            exact ⟨_, _, rfl, hG572, Or.inr ⟨_, hx575, hz573, he466⟩⟩
        · show yi_D zi_Ms d zi_m94 k (105, [(1, .inl (ld 0)), (0, .inr (.inr (some 82)))], [.inl 0], (I, L, R, Y), 0, 0) _
          refine yi_D_if1 true rfl (by decide) ?_
          refine yi_D_run 4 (116, [(2, .inl (-1)), (1, .inl (ld 0)), (0, .inr (.inr (some 82)))], [.inr (.inr (some 82)), .inr (.inr (some 82))], (I, L, R, Y), 0, 0) (fun _ => rfl) ?_
          refine yi_D_gi (v := (a : Int)) rfl rfl rfl hA.1 (fun _ => ?_)
          refine yi_D_run 1 (120, [(2, .inl (-1)), (1, .inl (ld 0)), (0, .inr (.inr (some 82)))], [.inl (-1), .inl (a : Int), .inr (.inr (some 82))], (I, L, R, Y), 0, 0) (fun _ => rfl) ?_
          refine yi_D_if1 false rfl (by decide) ?_
          refine yi_D_run 2 (128, [(2, .inl (-1)), (1, .inl (ld 0)), (0, .inr (.inr (some 82)))], [.inl 0, .inl (a : Int), .inr (.inr (some 82))], (I, L, R, Y), 0, 0) (fun _ => rfl) ?_
          refine yi_D_iadd rfl ((a : Int) + 0) (yi_wn (by omega) (by omega)) ?_
          refine yi_D_pi rfl (fun _ => ?_)
          generalize w578 : yi_u I 82 7 ((a : Int) + 0) = I577
          have hGn579 : mt_G I I577 := fun p k hp => by rw [← w578, yi_u_ne _ _ (by omega)]
          have hW580 := mt_W_t hW (mt_G_F hGn579)
          have hF581 := (mt_G_F hGn579)
          have hG582 := hGn579
          have hf583 : I577 82 8 = 0 := by rw [← w578, yi_u_ne _ _ (by omega)]; exact hf
          have hA584 : mt_A I577 te a := ⟨by rw [← w578, yi_u_eq]; omega, hA.2⟩
          refine yi_D_run 1 (133, [(2, .inl (-1)), (1, .inl (ld 0)), (0, .inr (.inr (some 82)))], [.inl (-1)], (I577, L, R, Y), 0, 0) (fun _ => rfl) ?_
          refine yi_D_if1 false rfl (by decide) ?_
          refine yi_D_run 3 (139, [(2, .inl (-1)), (1, .inl (ld 0)), (0, .inr (.inr (some 82)))], [.inl (-1), .inl 0, .inr (.inr (some 82))], (I577, L, R, Y), 0, 0) (fun _ => rfl) ?_
          refine yi_D_callv rfl (q_takeTold0_z (bt := (-1)) hW580 hf583 hA584) ?_
          rintro _ (⟨c585, c586, c587, I588, rfl, hGa589, hf590, hA591⟩ | ⟨c592, z596, I593, rfl, hGa594, he595⟩ | ⟨c597, z601, I598, rfl, hGa599, he600⟩ | ⟨c602, z606, I603, rfl, hGa604, he605⟩)
          · have hA591 : mt_A I588 te (a + 1) := hA591
            have hW607 := mt_W_t hW580 (mt_G_F hGa589)
            have hF608 := mt_F_t hF581 (mt_G_F hGa589)
            have hG609 := mt_G_t hG582 hGa589
            show yi_D zi_Ms d zi_m94 k (142, [(2, .inl (-1)), (1, .inl (ld 0)), (0, .inr (.inr (some 82)))], [.inl (nm (V a) - 0)], (I588, L, R, Y), 0, 0) _
            refine yi_D_run 5 (150, [(2, .inl (nm (V a) - 0)), (1, .inl (ld 0)), (0, .inr (.inr (some 82)))], [.inl (-1), .inl 1, .inr (.inr (some 82))], (I588, L, R, Y), 0, 0) (fun _ => rfl) ?_
            refine yi_D_callv rfl (q_takeTold1_z (bt := (-1)) hW607 hf590 hA591) ?_
            rintro _ (⟨c610, c611, c612, I613, rfl, hGa614, hf615, hA616⟩ | ⟨c617, z621, I618, rfl, hGa619, he620⟩ | ⟨c622, z626, I623, rfl, hGa624, he625⟩ | ⟨c627, z631, I628, rfl, hGa629, he630⟩)
            · have hA616 : mt_A I613 te (a + 2) := hA616
              have hW632 := mt_W_t hW607 (mt_G_F hGa614)
              have hF633 := mt_F_t hF608 (mt_G_F hGa614)
              have hG634 := mt_G_t hG609 hGa614
              show yi_D zi_Ms d zi_m94 k (153, [(2, .inl (nm (V a) - 0)), (1, .inl (ld 0)), (0, .inr (.inr (some 82)))], [.inl (nm (V (a + 1)) - 4)], (I613, L, R, Y), 0, 0) _
              refine yi_D_run 2 (155, [(3, .inl (nm (V (a + 1)) - 4)), (2, .inl (nm (V a) - 0)), (1, .inl (ld 0)), (0, .inr (.inr (some 82)))], [.inr (.inr (some 82))], (I613, L, R, Y), 0, 0) (fun _ => rfl) ?_
              refine yi_D_gi (v := 0) rfl rfl rfl hf615 (fun _ => ?_)
              refine yi_D_if1 true rfl (by decide) ?_
              refine yi_D_run 3 (170, [(3, .inl (nm (V (a + 1)) - 4)), (2, .inl (nm (V a) - 0)), (1, .inl (ld 0)), (0, .inr (.inr (some 82)))], [.inl 7, .inl 14, .inr (.inr (some 82))], (I613, L, R, Y), 0, 0) (fun _ => rfl) ?_
              refine yi_D_callv rfl (q_wordHere_z (by omega) (by omega) (by omega) hW632 hf615 hA616) ?_
              rintro _ ⟨z635, rfl, hz636⟩
              show yi_D zi_Ms d zi_m94 k (173, [(3, .inl (nm (V (a + 1)) - 4)), (2, .inl (nm (V a) - 0)), (1, .inl (ld 0)), (0, .inr (.inr (some 82)))], [.inl z635], (I613, L, R, Y), 0, 0) _
              refine yi_D_run 2 (177, [(4, .inl z635), (3, .inl (nm (V (a + 1)) - 4)), (2, .inl (nm (V a) - 0)), (1, .inl (ld 0)), (0, .inr (.inr (some 82)))], [.inl z635], (I613, L, R, Y), 0, 0) (fun _ => rfl) ?_
              by_cases h637 : 0 ≤ z635
              · refine yi_D_if1 true rfl (yi_ge_t h637) ?_
                refine yi_D_run 2 (189, [(4, .inl z635), (3, .inl (nm (V (a + 1)) - 4)), (2, .inl (nm (V a) - 0)), (1, .inl (ld 0)), (0, .inr (.inr (some 82)))], [.inr (.inr (some 82)), .inr (.inr (some 82))], (I613, L, R, Y), 0, 0) (fun _ => rfl) ?_
                refine yi_D_gi (v := ((a + 2 : Nat) : Int)) rfl rfl rfl hA616.1 (fun _ => ?_)
                refine yi_D_run 1 (193, [(4, .inl z635), (3, .inl (nm (V (a + 1)) - 4)), (2, .inl (nm (V a) - 0)), (1, .inl (ld 0)), (0, .inr (.inr (some 82)))], [.inl 1, .inl ((a + 2 : Nat) : Int), .inr (.inr (some 82))], (I613, L, R, Y), 0, 0) (fun _ => rfl) ?_
                refine yi_D_iadd rfl (((a + 2 : Nat) : Int) + 1) (yi_wn (by omega) (by omega)) ?_
                refine yi_D_pi rfl (fun _ => ?_)
                generalize w639 : yi_u I613 82 7 (((a + 2 : Nat) : Int) + 1) = I638
                have hGn640 : mt_G I613 I638 := fun p k hp => by rw [← w639, yi_u_ne _ _ (by omega)]
                have hW641 := mt_W_t hW632 (mt_G_F hGn640)
                have hF642 := mt_F_t hF633 (mt_G_F hGn640)
                have hG643 := mt_G_t hG634 hGn640
                have hf644 : I638 82 8 = 0 := by rw [← w639, yi_u_ne _ _ (by omega)]; exact hf615
                have hA645 : mt_A I638 te (a + 3) := ⟨by rw [← w639, yi_u_eq]; omega, mt_lt hW641.2.1 hA616.2 (by omega)⟩
                refine yi_D_run 2 (200, [(4, .inl z635), (3, .inl (nm (V (a + 1)) - 4)), (2, .inl (nm (V a) - 0)), (1, .inl (ld 0)), (0, .inr (.inr (some 82)))], [.inl 2, .inl z635], (I638, L, R, Y), 0, 0) (fun _ => rfl) ?_
                by_cases h646 : 2 < z635
                · refine yi_D_if2 true rfl (yi_gt_t h646) ?_
                  refine yi_D_run 2 (215, [(4, .inl z635), (3, .inl (nm (V (a + 1)) - 4)), (2, .inl (nm (V a) - 0)), (1, .inl (ld 0)), (0, .inr (.inr (some 82)))], [.inl 5, .inl z635], (I638, L, R, Y), 0, 0) (fun _ => rfl) ?_
                  by_cases h647 : z635 < 5
                  · refine yi_D_if2 true rfl (yi_lt_t h647) ?_
                    refine yi_D_run 6 (236, [(5, .inl 0), (4, .inl z635), (3, .inl (nm (V (a + 1)) - 4)), (2, .inl (nm (V a) - 0)), (1, .inl (ld 0)), (0, .inr (.inr (some 82)))], [.inl 0, .inl z635, .inl (nm (V (a + 1)) - 4), .inl (nm (V a) - 0)], (I638, L, R, Y), 0, 0) (fun _ => rfl) ?_
                    refine yi_D_calls rfl (q_clause) ?_
                    rintro _ ⟨zc, rfl⟩
                    show yi_D zi_Ms d zi_m94 k (239, [(5, .inl 0), (4, .inl z635), (3, .inl (nm (V (a + 1)) - 4)), (2, .inl (nm (V a) - 0)), (1, .inl (ld 0)), (0, .inr (.inr (some 82)))], [.inl zc], (I638, L, R, Y), 0, 0) _
                    refine yi_D_reti rfl ?_
                    first
                    | (exfalso; omega)
                    | (refine ⟨_, _, rfl, hG643, Or.inl ⟨_, sp_cc (nm (V (a + 1))) (nm (V (a + 3)) - 4) (if K a = 16 then 7 else 8) (nm (V (a + 2))), ?_, hf644, hA645⟩⟩; unfold sp_cl; rw [if_pos (by omega)]; unfold sp_pair; (repeat (first | rw [if_pos (by omega)] | rw [if_neg (by omega)])); done)
                    | (refine ⟨_, _, rfl, hG643, Or.inl ⟨_, sp_cc (if K a = 14 then 4 else if K a = 15 then 5 else nm (V a)) (nm (V (a + 1)) - 4) (K (a + 2) - 18) 0, ?_, hf644, hA645⟩⟩; unfold sp_cl; rw [if_neg (by omega)]; unfold sp_single; (repeat (first | rw [if_pos (by omega)] | rw [if_neg (by omega)])); done)
                  · refine yi_D_if2 false rfl (yi_lt_f h647) ?_
                    refine yi_D_run 3 (221, [(4, .inl z635), (3, .inl (nm (V (a + 1)) - 4)), (2, .inl (nm (V a) - 0)), (1, .inl (ld 0)), (0, .inr (.inr (some 82)))], [.inl (ld 0), .inl 0, .inr (.inr (some 82))], (I638, L, R, Y), 0, 0) (fun _ => rfl) ?_
                    have hlo : sp_lo (K (a + 2)) = 0 := if_neg (by omega)
                    refine yi_D_callv rfl (q_takeNumber_z (lo := 0) (hi := ld 0) hW641 hf644 hA645) ?_
                    rintro _ (⟨c648, c649, I650, rfl, hGa651, hf652, hA653⟩ | ⟨c654, z658, I655, rfl, hGa656, he657⟩ | ⟨c659, z663, I660, rfl, hGa661, he662⟩)
                    · have hA653 : mt_A I650 te (a + 4) := hA653
                      have hW664 := mt_W_t hW641 (mt_G_F hGa651)
                      have hF665 := mt_F_t hF642 (mt_G_F hGa651)
                      have hG666 := mt_G_t hG643 hGa651
                      show yi_D zi_Ms d zi_m94 k (224, [(4, .inl z635), (3, .inl (nm (V (a + 1)) - 4)), (2, .inl (nm (V a) - 0)), (1, .inl (ld 0)), (0, .inr (.inr (some 82)))], [.inl (V (a + 3))], (I650, L, R, Y), 0, 0) _
                      refine yi_D_run 6 (236, [(5, .inl (V (a + 3))), (4, .inl z635), (3, .inl (nm (V (a + 1)) - 4)), (2, .inl (nm (V a) - 0)), (1, .inl (ld 0)), (0, .inr (.inr (some 82)))], [.inl (V (a + 3)), .inl z635, .inl (nm (V (a + 1)) - 4), .inl (nm (V a) - 0)], (I650, L, R, Y), 0, 0) (fun _ => rfl) ?_
                      refine yi_D_calls rfl (q_clause) ?_
                      rintro _ ⟨zc, rfl⟩
                      show yi_D zi_Ms d zi_m94 k (239, [(5, .inl (V (a + 3))), (4, .inl z635), (3, .inl (nm (V (a + 1)) - 4)), (2, .inl (nm (V a) - 0)), (1, .inl (ld 0)), (0, .inr (.inr (some 82)))], [.inl zc], (I650, L, R, Y), 0, 0) _
                      refine yi_D_reti rfl ?_
                      first
                      | (exfalso; omega)
                      | (refine ⟨_, _, rfl, hG666, Or.inl ⟨_, sp_cc (nm (V (a + 1))) (nm (V (a + 3)) - 4) (if K a = 16 then 7 else 8) (nm (V (a + 2))), ?_, hf652, hA653⟩⟩; unfold sp_cl; rw [if_pos (by omega)]; unfold sp_pair; (repeat (first | rw [if_pos (by omega)] | rw [if_neg (by omega)])); done)
                      | (refine ⟨_, _, rfl, hG666, Or.inl ⟨_, sp_cc (if K a = 14 then 4 else if K a = 15 then 5 else nm (V a)) (nm (V (a + 1)) - 4) (K (a + 2) - 18) (V (a + 3)), ?_, hf652, hA653⟩⟩; unfold sp_cl; rw [if_neg (by omega)]; unfold sp_single; (repeat (first | rw [if_pos (by omega)] | rw [if_neg (by omega)])); done)
                    · have hW667 := mt_W_t hW641 (mt_G_F hGa656)
                      have hF668 := mt_F_t hF642 (mt_G_F hGa656)
                      have hG669 := mt_G_t hG643 hGa656
                      have hz670 : 0 < sp_f P (a + 3) 1 := mt_f_ne hW641 hA645.2 (by omega)
                      have hn671 : 0 < I655 82 8 := by rw [he657]; exact hz670
                      have hx672 : sp_cl K P V ld nm a = .inr (sp_f P (a + 3) 1) := by
                        first
                        | (exfalso; omega)
                        | (unfold sp_cl; rw [if_pos (by omega)]; unfold sp_pair; (repeat (first | rw [if_pos (by omega)] | rw [if_neg (by omega)])); done)
                        | (unfold sp_cl; rw [if_neg (by omega)]; unfold sp_single; (repeat (first | rw [if_pos (by omega)] | rw [if_neg (by omega)])); done)
                      show yi_D zi_Ms d zi_m94 k (224, [(4, .inl z635), (3, .inl (nm (V (a + 1)) - 4)), (2, .inl (nm (V a) - 0)), (1, .inl (ld 0)), (0, .inr (.inr (some 82)))], [.inl z658], (I655, L, R, Y), 0, 0) _
                      refine yi_D_run 6 (236, [(5, .inl z658), (4, .inl z635), (3, .inl (nm (V (a + 1)) - 4)), (2, .inl (nm (V a) - 0)), (1, .inl (ld 0)), (0, .inr (.inr (some 82)))], [.inl z658, .inl z635, .inl (nm (V (a + 1)) - 4), .inl (nm (V a) - 0)], (I655, L, R, Y), 0, 0) (fun _ => rfl) ?_
                      refine yi_D_calls rfl (q_clause) ?_
                      rintro _ ⟨zc, rfl⟩
                      show yi_D zi_Ms d zi_m94 k (239, [(5, .inl z658), (4, .inl z635), (3, .inl (nm (V (a + 1)) - 4)), (2, .inl (nm (V a) - 0)), (1, .inl (ld 0)), (0, .inr (.inr (some 82)))], [.inl zc], (I655, L, R, Y), 0, 0) _
                      refine yi_D_reti rfl ?_
                      exact ⟨_, _, rfl, hG669, Or.inr ⟨_, hx672, hz670, he657⟩⟩
                    · have hW673 := mt_W_t hW641 (mt_G_F hGa661)
                      have hF674 := mt_F_t hF642 (mt_G_F hGa661)
                      have hG675 := mt_G_t hG643 hGa661
                      have hz676 : 0 < sp_f P (a + 3) 4 := mt_f_ne hW641 hA645.2 (by omega)
                      have hn677 : 0 < I660 82 8 := by rw [he662]; exact hz676
                      have hx678 : sp_cl K P V ld nm a = .inr (sp_f P (a + 3) 4) := by
                        first
                        | (exfalso; omega)
                        | (unfold sp_cl; rw [if_pos (by omega)]; unfold sp_pair; (repeat (first | rw [if_pos (by omega)] | rw [if_neg (by omega)])); done)
                        | (unfold sp_cl; rw [if_neg (by omega)]; unfold sp_single; (repeat (first | rw [if_pos (by omega)] | rw [if_neg (by omega)])); done)
                      show yi_D zi_Ms d zi_m94 k (224, [(4, .inl z635), (3, .inl (nm (V (a + 1)) - 4)), (2, .inl (nm (V a) - 0)), (1, .inl (ld 0)), (0, .inr (.inr (some 82)))], [.inl z663], (I660, L, R, Y), 0, 0) _
                      refine yi_D_run 6 (236, [(5, .inl z663), (4, .inl z635), (3, .inl (nm (V (a + 1)) - 4)), (2, .inl (nm (V a) - 0)), (1, .inl (ld 0)), (0, .inr (.inr (some 82)))], [.inl z663, .inl z635, .inl (nm (V (a + 1)) - 4), .inl (nm (V a) - 0)], (I660, L, R, Y), 0, 0) (fun _ => rfl) ?_
                      refine yi_D_calls rfl (q_clause) ?_
                      rintro _ ⟨zc, rfl⟩
                      show yi_D zi_Ms d zi_m94 k (239, [(5, .inl z663), (4, .inl z635), (3, .inl (nm (V (a + 1)) - 4)), (2, .inl (nm (V a) - 0)), (1, .inl (ld 0)), (0, .inr (.inr (some 82)))], [.inl zc], (I660, L, R, Y), 0, 0) _
                      refine yi_D_reti rfl ?_
                      exact ⟨_, _, rfl, hG675, Or.inr ⟨_, hx678, hz676, he662⟩⟩
                · refine yi_D_if2 false rfl (yi_gt_f h646) ?_
                  refine yi_D_run 3 (206, [(4, .inl z635), (3, .inl (nm (V (a + 1)) - 4)), (2, .inl (nm (V a) - 0)), (1, .inl (ld 0)), (0, .inr (.inr (some 82)))], [.inl (ld 0), .inl 1, .inr (.inr (some 82))], (I638, L, R, Y), 0, 0) (fun _ => rfl) ?_
                  have hlo : sp_lo (K (a + 2)) = 1 := if_pos (by omega)
                  refine yi_D_callv rfl (q_takeNumber_z (lo := 1) (hi := ld 0) hW641 hf644 hA645) ?_
                  rintro _ (⟨c679, c680, I681, rfl, hGa682, hf683, hA684⟩ | ⟨c685, z689, I686, rfl, hGa687, he688⟩ | ⟨c690, z694, I691, rfl, hGa692, he693⟩)
                  · have hA684 : mt_A I681 te (a + 4) := hA684
                    have hW695 := mt_W_t hW641 (mt_G_F hGa682)
                    have hF696 := mt_F_t hF642 (mt_G_F hGa682)
                    have hG697 := mt_G_t hG643 hGa682
                    show yi_D zi_Ms d zi_m94 k (209, [(4, .inl z635), (3, .inl (nm (V (a + 1)) - 4)), (2, .inl (nm (V a) - 0)), (1, .inl (ld 0)), (0, .inr (.inr (some 82)))], [.inl (V (a + 3))], (I681, L, R, Y), 0, 0) _
                    refine yi_D_run 6 (236, [(5, .inl (V (a + 3))), (4, .inl z635), (3, .inl (nm (V (a + 1)) - 4)), (2, .inl (nm (V a) - 0)), (1, .inl (ld 0)), (0, .inr (.inr (some 82)))], [.inl (V (a + 3)), .inl z635, .inl (nm (V (a + 1)) - 4), .inl (nm (V a) - 0)], (I681, L, R, Y), 0, 0) (fun _ => rfl) ?_
                    refine yi_D_calls rfl (q_clause) ?_
                    rintro _ ⟨zc, rfl⟩
                    show yi_D zi_Ms d zi_m94 k (239, [(5, .inl (V (a + 3))), (4, .inl z635), (3, .inl (nm (V (a + 1)) - 4)), (2, .inl (nm (V a) - 0)), (1, .inl (ld 0)), (0, .inr (.inr (some 82)))], [.inl zc], (I681, L, R, Y), 0, 0) _
                    refine yi_D_reti rfl ?_
                    first
                    | (exfalso; omega)
                    | (refine ⟨_, _, rfl, hG697, Or.inl ⟨_, sp_cc (nm (V (a + 1))) (nm (V (a + 3)) - 4) (if K a = 16 then 7 else 8) (nm (V (a + 2))), ?_, hf683, hA684⟩⟩; unfold sp_cl; rw [if_pos (by omega)]; unfold sp_pair; (repeat (first | rw [if_pos (by omega)] | rw [if_neg (by omega)])); done)
                    | (refine ⟨_, _, rfl, hG697, Or.inl ⟨_, sp_cc (if K a = 14 then 4 else if K a = 15 then 5 else nm (V a)) (nm (V (a + 1)) - 4) (K (a + 2) - 18) (V (a + 3)), ?_, hf683, hA684⟩⟩; unfold sp_cl; rw [if_neg (by omega)]; unfold sp_single; (repeat (first | rw [if_pos (by omega)] | rw [if_neg (by omega)])); done)
                  · have hW698 := mt_W_t hW641 (mt_G_F hGa687)
                    have hF699 := mt_F_t hF642 (mt_G_F hGa687)
                    have hG700 := mt_G_t hG643 hGa687
                    have hz701 : 0 < sp_f P (a + 3) 1 := mt_f_ne hW641 hA645.2 (by omega)
                    have hn702 : 0 < I686 82 8 := by rw [he688]; exact hz701
                    have hx703 : sp_cl K P V ld nm a = .inr (sp_f P (a + 3) 1) := by
                      first
                      | (exfalso; omega)
                      | (unfold sp_cl; rw [if_pos (by omega)]; unfold sp_pair; (repeat (first | rw [if_pos (by omega)] | rw [if_neg (by omega)])); done)
                      | (unfold sp_cl; rw [if_neg (by omega)]; unfold sp_single; (repeat (first | rw [if_pos (by omega)] | rw [if_neg (by omega)])); done)
                    show yi_D zi_Ms d zi_m94 k (209, [(4, .inl z635), (3, .inl (nm (V (a + 1)) - 4)), (2, .inl (nm (V a) - 0)), (1, .inl (ld 0)), (0, .inr (.inr (some 82)))], [.inl z689], (I686, L, R, Y), 0, 0) _
                    refine yi_D_run 6 (236, [(5, .inl z689), (4, .inl z635), (3, .inl (nm (V (a + 1)) - 4)), (2, .inl (nm (V a) - 0)), (1, .inl (ld 0)), (0, .inr (.inr (some 82)))], [.inl z689, .inl z635, .inl (nm (V (a + 1)) - 4), .inl (nm (V a) - 0)], (I686, L, R, Y), 0, 0) (fun _ => rfl) ?_
                    refine yi_D_calls rfl (q_clause) ?_
                    rintro _ ⟨zc, rfl⟩
                    show yi_D zi_Ms d zi_m94 k (239, [(5, .inl z689), (4, .inl z635), (3, .inl (nm (V (a + 1)) - 4)), (2, .inl (nm (V a) - 0)), (1, .inl (ld 0)), (0, .inr (.inr (some 82)))], [.inl zc], (I686, L, R, Y), 0, 0) _
                    refine yi_D_reti rfl ?_
                    exact ⟨_, _, rfl, hG700, Or.inr ⟨_, hx703, hz701, he688⟩⟩
                  · have hW704 := mt_W_t hW641 (mt_G_F hGa692)
                    have hF705 := mt_F_t hF642 (mt_G_F hGa692)
                    have hG706 := mt_G_t hG643 hGa692
                    have hz707 : 0 < sp_f P (a + 3) 4 := mt_f_ne hW641 hA645.2 (by omega)
                    have hn708 : 0 < I691 82 8 := by rw [he693]; exact hz707
                    have hx709 : sp_cl K P V ld nm a = .inr (sp_f P (a + 3) 4) := by
                      first
                      | (exfalso; omega)
                      | (unfold sp_cl; rw [if_pos (by omega)]; unfold sp_pair; (repeat (first | rw [if_pos (by omega)] | rw [if_neg (by omega)])); done)
                      | (unfold sp_cl; rw [if_neg (by omega)]; unfold sp_single; (repeat (first | rw [if_pos (by omega)] | rw [if_neg (by omega)])); done)
                    show yi_D zi_Ms d zi_m94 k (209, [(4, .inl z635), (3, .inl (nm (V (a + 1)) - 4)), (2, .inl (nm (V a) - 0)), (1, .inl (ld 0)), (0, .inr (.inr (some 82)))], [.inl z694], (I691, L, R, Y), 0, 0) _
                    refine yi_D_run 6 (236, [(5, .inl z694), (4, .inl z635), (3, .inl (nm (V (a + 1)) - 4)), (2, .inl (nm (V a) - 0)), (1, .inl (ld 0)), (0, .inr (.inr (some 82)))], [.inl z694, .inl z635, .inl (nm (V (a + 1)) - 4), .inl (nm (V a) - 0)], (I691, L, R, Y), 0, 0) (fun _ => rfl) ?_
                    refine yi_D_calls rfl (q_clause) ?_
                    rintro _ ⟨zc, rfl⟩
                    show yi_D zi_Ms d zi_m94 k (239, [(5, .inl z694), (4, .inl z635), (3, .inl (nm (V (a + 1)) - 4)), (2, .inl (nm (V a) - 0)), (1, .inl (ld 0)), (0, .inr (.inr (some 82)))], [.inl zc], (I691, L, R, Y), 0, 0) _
                    refine yi_D_reti rfl ?_
                    exact ⟨_, _, rfl, hG706, Or.inr ⟨_, hx709, hz707, he693⟩⟩
              · refine yi_D_if1 false rfl (yi_ge_f h637) ?_
                refine yi_D_run 2 (182, [(4, .inl z635), (3, .inl (nm (V (a + 1)) - 4)), (2, .inl (nm (V a) - 0)), (1, .inl (ld 0)), (0, .inr (.inr (some 82)))], [.inl 1, .inr (.inr (some 82))], (I613, L, R, Y), 0, 0) (fun _ => rfl) ?_
                refine yi_D_callv rfl (q_wrong_z ⟨by omega, by omega⟩ hW632 hf615 hA616) ?_
                rintro _ ⟨I710, rfl, hg711, he712⟩
                have hGw713 : mt_G I613 I710 := fun p k hp => hg711 p k (by omega)
                have hW714 := mt_W_t hW632 (mt_G_F hGw713)
                have hF715 := mt_F_t hF633 (mt_G_F hGw713)
                have hG716 := mt_G_t hG634 hGw713
                have hz717 : 0 < sp_f P (a + 2) 1 := mt_f_ne hW632 hA616.2 (by omega)
                have hn718 : 0 < I710 82 8 := by rw [he712]; exact hz717
                have hx719 : sp_cl K P V ld nm a = .inr (sp_f P (a + 2) 1) := by
                  first
                  | (exfalso; omega)
                  | (unfold sp_cl; rw [if_pos (by omega)]; unfold sp_pair; (repeat (first | rw [if_pos (by omega)] | rw [if_neg (by omega)])); done)
                  | (unfold sp_cl; rw [if_neg (by omega)]; unfold sp_single; (repeat (first | rw [if_pos (by omega)] | rw [if_neg (by omega)])); done)
                show yi_D zi_Ms d zi_m94 k (185, [(4, .inl z635), (3, .inl (nm (V (a + 1)) - 4)), (2, .inl (nm (V a) - 0)), (1, .inl (ld 0)), (0, .inr (.inr (some 82)))], [], (I710, L, R, Y), 0, 0) _
                refine yi_D_run 1 (186, [(4, .inl z635), (3, .inl (nm (V (a + 1)) - 4)), (2, .inl (nm (V a) - 0)), (1, .inl (ld 0)), (0, .inr (.inr (some 82)))], [.inl 0], (I710, L, R, Y), 0, 0) (fun _ => rfl) ?_
                refine yi_D_reti rfl ?_
                exact ⟨_, _, rfl, hG716, Or.inr ⟨_, hx719, hz717, he712⟩⟩
            · have hW720 := mt_W_t hW607 (mt_G_F hGa619)
              have hF721 := mt_F_t hF608 (mt_G_F hGa619)
              have hG722 := mt_G_t hG609 hGa619
              have hz723 : 0 < sp_f P (a + 1) 1 := mt_f_ne hW607 hA591.2 (by omega)
              have hn724 : 0 < I618 82 8 := by rw [he620]; exact hz723
              have hx725 : sp_cl K P V ld nm a = .inr (sp_f P (a + 1) 1) := by
                first
                | (exfalso; omega)
                | (unfold sp_cl; rw [if_pos (by omega)]; unfold sp_pair; (repeat (first | rw [if_pos (by omega)] | rw [if_neg (by omega)])); done)
                | (unfold sp_cl; rw [if_neg (by omega)]; unfold sp_single; (repeat (first | rw [if_pos (by omega)] | rw [if_neg (by omega)])); done)
              show yi_D zi_Ms d zi_m94 k (153, [(2, .inl (nm (V a) - 0)), (1, .inl (ld 0)), (0, .inr (.inr (some 82)))], [.inl z621], (I618, L, R, Y), 0, 0) _
              refine yi_D_run 2 (155, [(3, .inl z621), (2, .inl (nm (V a) - 0)), (1, .inl (ld 0)), (0, .inr (.inr (some 82)))], [.inr (.inr (some 82))], (I618, L, R, Y), 0, 0) (fun _ => rfl) ?_
              refine yi_D_gi (v := I618 82 8) rfl rfl rfl rfl (fun _ => ?_)
              have h726 : ¬ ((I618 82 8) ≤ 0) := by omega
              refine yi_D_if1 false rfl (yi_le_f h726) ?_
              refine yi_D_run 4 (177, [(4, .inl (-1)), (3, .inl z621), (2, .inl (nm (V a) - 0)), (1, .inl (ld 0)), (0, .inr (.inr (some 82)))], [.inl (-1)], (I618, L, R, Y), 0, 0) (fun _ => rfl) ?_
              refine yi_D_if1 false rfl (by decide) ?_
              refine yi_D_run 2 (182, [(4, .inl (-1)), (3, .inl z621), (2, .inl (nm (V a) - 0)), (1, .inl (ld 0)), (0, .inr (.inr (some 82)))], [.inl 1, .inr (.inr (some 82))], (I618, L, R, Y), 0, 0) (fun _ => rfl) ?_
              refine yi_D_callv rfl (q_wrong_f hW720 hn724) ?_
              rintro _ rfl
              show yi_D zi_Ms d zi_m94 k (185, [(4, .inl (-1)), (3, .inl z621), (2, .inl (nm (V a) - 0)), (1, .inl (ld 0)), (0, .inr (.inr (some 82)))], [], (I618, L, R, Y), 0, 0) _
              refine yi_D_run 1 (186, [(4, .inl (-1)), (3, .inl z621), (2, .inl (nm (V a) - 0)), (1, .inl (ld 0)), (0, .inr (.inr (some 82)))], [.inl 0], (I618, L, R, Y), 0, 0) (fun _ => rfl) ?_
              refine yi_D_reti rfl ?_
              exact ⟨_, _, rfl, hG722, Or.inr ⟨_, hx725, hz723, he620⟩⟩
            · have hW727 := mt_W_t hW607 (mt_G_F hGa624)
              have hF728 := mt_F_t hF608 (mt_G_F hGa624)
              have hG729 := mt_G_t hG609 hGa624
              have hz730 : 0 < sp_f P (a + 1) 2 := mt_f_ne hW607 hA591.2 (by omega)
              have hn731 : 0 < I623 82 8 := by rw [he625]; exact hz730
              have hx732 : sp_cl K P V ld nm a = .inr (sp_f P (a + 1) 2) := by
                first
                | (exfalso; omega)
                | (unfold sp_cl; rw [if_pos (by omega)]; unfold sp_pair; (repeat (first | rw [if_pos (by omega)] | rw [if_neg (by omega)])); done)
                | (unfold sp_cl; rw [if_neg (by omega)]; unfold sp_single; (repeat (first | rw [if_pos (by omega)] | rw [if_neg (by omega)])); done)
              show yi_D zi_Ms d zi_m94 k (153, [(2, .inl (nm (V a) - 0)), (1, .inl (ld 0)), (0, .inr (.inr (some 82)))], [.inl z626], (I623, L, R, Y), 0, 0) _
              refine yi_D_run 2 (155, [(3, .inl z626), (2, .inl (nm (V a) - 0)), (1, .inl (ld 0)), (0, .inr (.inr (some 82)))], [.inr (.inr (some 82))], (I623, L, R, Y), 0, 0) (fun _ => rfl) ?_
              refine yi_D_gi (v := I623 82 8) rfl rfl rfl rfl (fun _ => ?_)
              have h733 : ¬ ((I623 82 8) ≤ 0) := by omega
              refine yi_D_if1 false rfl (yi_le_f h733) ?_
              refine yi_D_run 4 (177, [(4, .inl (-1)), (3, .inl z626), (2, .inl (nm (V a) - 0)), (1, .inl (ld 0)), (0, .inr (.inr (some 82)))], [.inl (-1)], (I623, L, R, Y), 0, 0) (fun _ => rfl) ?_
              refine yi_D_if1 false rfl (by decide) ?_
              refine yi_D_run 2 (182, [(4, .inl (-1)), (3, .inl z626), (2, .inl (nm (V a) - 0)), (1, .inl (ld 0)), (0, .inr (.inr (some 82)))], [.inl 1, .inr (.inr (some 82))], (I623, L, R, Y), 0, 0) (fun _ => rfl) ?_
              refine yi_D_callv rfl (q_wrong_f hW727 hn731) ?_
              rintro _ rfl
              show yi_D zi_Ms d zi_m94 k (185, [(4, .inl (-1)), (3, .inl z626), (2, .inl (nm (V a) - 0)), (1, .inl (ld 0)), (0, .inr (.inr (some 82)))], [], (I623, L, R, Y), 0, 0) _
              refine yi_D_run 1 (186, [(4, .inl (-1)), (3, .inl z626), (2, .inl (nm (V a) - 0)), (1, .inl (ld 0)), (0, .inr (.inr (some 82)))], [.inl 0], (I623, L, R, Y), 0, 0) (fun _ => rfl) ?_
              refine yi_D_reti rfl ?_
              exact ⟨_, _, rfl, hG729, Or.inr ⟨_, hx732, hz730, he625⟩⟩
            · have hW734 := mt_W_t hW607 (mt_G_F hGa629)
              have hF735 := mt_F_t hF608 (mt_G_F hGa629)
              have hG736 := mt_G_t hG609 hGa629
              have hz737 : 0 < sp_f P (a + 1) 3 := mt_f_ne hW607 hA591.2 (by omega)
              have hn738 : 0 < I628 82 8 := by rw [he630]; exact hz737
              have hx739 : sp_cl K P V ld nm a = .inr (sp_f P (a + 1) 3) := by
                first
                | (exfalso; omega)
                | (unfold sp_cl; rw [if_pos (by omega)]; unfold sp_pair; (repeat (first | rw [if_pos (by omega)] | rw [if_neg (by omega)])); done)
                | (unfold sp_cl; rw [if_neg (by omega)]; unfold sp_single; (repeat (first | rw [if_pos (by omega)] | rw [if_neg (by omega)])); done)
              show yi_D zi_Ms d zi_m94 k (153, [(2, .inl (nm (V a) - 0)), (1, .inl (ld 0)), (0, .inr (.inr (some 82)))], [.inl z631], (I628, L, R, Y), 0, 0) _
              refine yi_D_run 2 (155, [(3, .inl z631), (2, .inl (nm (V a) - 0)), (1, .inl (ld 0)), (0, .inr (.inr (some 82)))], [.inr (.inr (some 82))], (I628, L, R, Y), 0, 0) (fun _ => rfl) ?_
              refine yi_D_gi (v := I628 82 8) rfl rfl rfl rfl (fun _ => ?_)
              have h740 : ¬ ((I628 82 8) ≤ 0) := by omega
              refine yi_D_if1 false rfl (yi_le_f h740) ?_
              refine yi_D_run 4 (177, [(4, .inl (-1)), (3, .inl z631), (2, .inl (nm (V a) - 0)), (1, .inl (ld 0)), (0, .inr (.inr (some 82)))], [.inl (-1)], (I628, L, R, Y), 0, 0) (fun _ => rfl) ?_
              refine yi_D_if1 false rfl (by decide) ?_
              refine yi_D_run 2 (182, [(4, .inl (-1)), (3, .inl z631), (2, .inl (nm (V a) - 0)), (1, .inl (ld 0)), (0, .inr (.inr (some 82)))], [.inl 1, .inr (.inr (some 82))], (I628, L, R, Y), 0, 0) (fun _ => rfl) ?_
              refine yi_D_callv rfl (q_wrong_f hW734 hn738) ?_
              rintro _ rfl
              show yi_D zi_Ms d zi_m94 k (185, [(4, .inl (-1)), (3, .inl z631), (2, .inl (nm (V a) - 0)), (1, .inl (ld 0)), (0, .inr (.inr (some 82)))], [], (I628, L, R, Y), 0, 0) _
              refine yi_D_run 1 (186, [(4, .inl (-1)), (3, .inl z631), (2, .inl (nm (V a) - 0)), (1, .inl (ld 0)), (0, .inr (.inr (some 82)))], [.inl 0], (I628, L, R, Y), 0, 0) (fun _ => rfl) ?_
              refine yi_D_reti rfl ?_
              exact ⟨_, _, rfl, hG736, Or.inr ⟨_, hx739, hz737, he630⟩⟩
          · have hW741 := mt_W_t hW580 (mt_G_F hGa594)
            have hF742 := mt_F_t hF581 (mt_G_F hGa594)
            have hG743 := mt_G_t hG582 hGa594
            have hz744 : 0 < sp_f P a 1 := mt_f_ne hW580 hA584.2 (by omega)
            have hn745 : 0 < I593 82 8 := by rw [he595]; exact hz744
            have hx746 : sp_cl K P V ld nm a = .inr (sp_f P a 1) := by
              first
              | (exfalso; omega)
              | (unfold sp_cl; rw [if_pos (by omega)]; unfold sp_pair; (repeat (first | rw [if_pos (by omega)] | rw [if_neg (by omega)])); done)
              | (unfold sp_cl; rw [if_neg (by omega)]; unfold sp_single; (repeat (first | rw [if_pos (by omega)] | rw [if_neg (by omega)])); done)
            show yi_D zi_Ms d zi_m94 k (142, [(2, .inl (-1)), (1, .inl (ld 0)), (0, .inr (.inr (some 82)))], [.inl z596], (I593, L, R, Y), 0, 0) _
            refine yi_D_run 5 (150, [(2, .inl z596), (1, .inl (ld 0)), (0, .inr (.inr (some 82)))], [.inl (-1), .inl 1, .inr (.inr (some 82))], (I593, L, R, Y), 0, 0) (fun _ => rfl) ?_
            refine yi_D_callv rfl (q_takeTold1_f hW741 hn745) ?_
            rintro _ ⟨z747, rfl⟩
            show yi_D zi_Ms d zi_m94 k (153, [(2, .inl z596), (1, .inl (ld 0)), (0, .inr (.inr (some 82)))], [.inl z747], (I593, L, R, Y), 0, 0) _
            refine yi_D_run 2 (155, [(3, .inl z747), (2, .inl z596), (1, .inl (ld 0)), (0, .inr (.inr (some 82)))], [.inr (.inr (some 82))], (I593, L, R, Y), 0, 0) (fun _ => rfl) ?_
            refine yi_D_gi (v := I593 82 8) rfl rfl rfl rfl (fun _ => ?_)
            have h748 : ¬ ((I593 82 8) ≤ 0) := by omega
            refine yi_D_if1 false rfl (yi_le_f h748) ?_
            refine yi_D_run 4 (177, [(4, .inl (-1)), (3, .inl z747), (2, .inl z596), (1, .inl (ld 0)), (0, .inr (.inr (some 82)))], [.inl (-1)], (I593, L, R, Y), 0, 0) (fun _ => rfl) ?_
            refine yi_D_if1 false rfl (by decide) ?_
            refine yi_D_run 2 (182, [(4, .inl (-1)), (3, .inl z747), (2, .inl z596), (1, .inl (ld 0)), (0, .inr (.inr (some 82)))], [.inl 1, .inr (.inr (some 82))], (I593, L, R, Y), 0, 0) (fun _ => rfl) ?_
            refine yi_D_callv rfl (q_wrong_f hW741 hn745) ?_
            rintro _ rfl
            show yi_D zi_Ms d zi_m94 k (185, [(4, .inl (-1)), (3, .inl z747), (2, .inl z596), (1, .inl (ld 0)), (0, .inr (.inr (some 82)))], [], (I593, L, R, Y), 0, 0) _
            refine yi_D_run 1 (186, [(4, .inl (-1)), (3, .inl z747), (2, .inl z596), (1, .inl (ld 0)), (0, .inr (.inr (some 82)))], [.inl 0], (I593, L, R, Y), 0, 0) (fun _ => rfl) ?_
            refine yi_D_reti rfl ?_
            exact ⟨_, _, rfl, hG743, Or.inr ⟨_, hx746, hz744, he595⟩⟩
          · have hW749 := mt_W_t hW580 (mt_G_F hGa599)
            have hF750 := mt_F_t hF581 (mt_G_F hGa599)
            have hG751 := mt_G_t hG582 hGa599
            have hz752 : 0 < sp_f P a 2 := mt_f_ne hW580 hA584.2 (by omega)
            have hn753 : 0 < I598 82 8 := by rw [he600]; exact hz752
            have hx754 : sp_cl K P V ld nm a = .inr (sp_f P a 2) := by
              first
              | (exfalso; omega)
              | (unfold sp_cl; rw [if_pos (by omega)]; unfold sp_pair; (repeat (first | rw [if_pos (by omega)] | rw [if_neg (by omega)])); done)
              | (unfold sp_cl; rw [if_neg (by omega)]; unfold sp_single; (repeat (first | rw [if_pos (by omega)] | rw [if_neg (by omega)])); done)
            show yi_D zi_Ms d zi_m94 k (142, [(2, .inl (-1)), (1, .inl (ld 0)), (0, .inr (.inr (some 82)))], [.inl z601], (I598, L, R, Y), 0, 0) _
            refine yi_D_run 5 (150, [(2, .inl z601), (1, .inl (ld 0)), (0, .inr (.inr (some 82)))], [.inl (-1), .inl 1, .inr (.inr (some 82))], (I598, L, R, Y), 0, 0) (fun _ => rfl) ?_
            refine yi_D_callv rfl (q_takeTold1_f hW749 hn753) ?_
            rintro _ ⟨z755, rfl⟩
            show yi_D zi_Ms d zi_m94 k (153, [(2, .inl z601), (1, .inl (ld 0)), (0, .inr (.inr (some 82)))], [.inl z755], (I598, L, R, Y), 0, 0) _
            refine yi_D_run 2 (155, [(3, .inl z755), (2, .inl z601), (1, .inl (ld 0)), (0, .inr (.inr (some 82)))], [.inr (.inr (some 82))], (I598, L, R, Y), 0, 0) (fun _ => rfl) ?_
            refine yi_D_gi (v := I598 82 8) rfl rfl rfl rfl (fun _ => ?_)
            have h756 : ¬ ((I598 82 8) ≤ 0) := by omega
            refine yi_D_if1 false rfl (yi_le_f h756) ?_
            refine yi_D_run 4 (177, [(4, .inl (-1)), (3, .inl z755), (2, .inl z601), (1, .inl (ld 0)), (0, .inr (.inr (some 82)))], [.inl (-1)], (I598, L, R, Y), 0, 0) (fun _ => rfl) ?_
            refine yi_D_if1 false rfl (by decide) ?_
            refine yi_D_run 2 (182, [(4, .inl (-1)), (3, .inl z755), (2, .inl z601), (1, .inl (ld 0)), (0, .inr (.inr (some 82)))], [.inl 1, .inr (.inr (some 82))], (I598, L, R, Y), 0, 0) (fun _ => rfl) ?_
            refine yi_D_callv rfl (q_wrong_f hW749 hn753) ?_
            rintro _ rfl
            show yi_D zi_Ms d zi_m94 k (185, [(4, .inl (-1)), (3, .inl z755), (2, .inl z601), (1, .inl (ld 0)), (0, .inr (.inr (some 82)))], [], (I598, L, R, Y), 0, 0) _
            refine yi_D_run 1 (186, [(4, .inl (-1)), (3, .inl z755), (2, .inl z601), (1, .inl (ld 0)), (0, .inr (.inr (some 82)))], [.inl 0], (I598, L, R, Y), 0, 0) (fun _ => rfl) ?_
            refine yi_D_reti rfl ?_
            exact ⟨_, _, rfl, hG751, Or.inr ⟨_, hx754, hz752, he600⟩⟩
          · have hW757 := mt_W_t hW580 (mt_G_F hGa604)
            have hF758 := mt_F_t hF581 (mt_G_F hGa604)
            have hG759 := mt_G_t hG582 hGa604
            have hz760 : 0 < sp_f P a 3 := mt_f_ne hW580 hA584.2 (by omega)
            have hn761 : 0 < I603 82 8 := by rw [he605]; exact hz760
            have hx762 : sp_cl K P V ld nm a = .inr (sp_f P a 3) := by
              first
              | (exfalso; omega)
              | (unfold sp_cl; rw [if_pos (by omega)]; unfold sp_pair; (repeat (first | rw [if_pos (by omega)] | rw [if_neg (by omega)])); done)
              | (unfold sp_cl; rw [if_neg (by omega)]; unfold sp_single; (repeat (first | rw [if_pos (by omega)] | rw [if_neg (by omega)])); done)
            show yi_D zi_Ms d zi_m94 k (142, [(2, .inl (-1)), (1, .inl (ld 0)), (0, .inr (.inr (some 82)))], [.inl z606], (I603, L, R, Y), 0, 0) _
            refine yi_D_run 5 (150, [(2, .inl z606), (1, .inl (ld 0)), (0, .inr (.inr (some 82)))], [.inl (-1), .inl 1, .inr (.inr (some 82))], (I603, L, R, Y), 0, 0) (fun _ => rfl) ?_
            refine yi_D_callv rfl (q_takeTold1_f hW757 hn761) ?_
            rintro _ ⟨z763, rfl⟩
            show yi_D zi_Ms d zi_m94 k (153, [(2, .inl z606), (1, .inl (ld 0)), (0, .inr (.inr (some 82)))], [.inl z763], (I603, L, R, Y), 0, 0) _
            refine yi_D_run 2 (155, [(3, .inl z763), (2, .inl z606), (1, .inl (ld 0)), (0, .inr (.inr (some 82)))], [.inr (.inr (some 82))], (I603, L, R, Y), 0, 0) (fun _ => rfl) ?_
            refine yi_D_gi (v := I603 82 8) rfl rfl rfl rfl (fun _ => ?_)
            have h764 : ¬ ((I603 82 8) ≤ 0) := by omega
            refine yi_D_if1 false rfl (yi_le_f h764) ?_
            refine yi_D_run 4 (177, [(4, .inl (-1)), (3, .inl z763), (2, .inl z606), (1, .inl (ld 0)), (0, .inr (.inr (some 82)))], [.inl (-1)], (I603, L, R, Y), 0, 0) (fun _ => rfl) ?_
            refine yi_D_if1 false rfl (by decide) ?_
            refine yi_D_run 2 (182, [(4, .inl (-1)), (3, .inl z763), (2, .inl z606), (1, .inl (ld 0)), (0, .inr (.inr (some 82)))], [.inl 1, .inr (.inr (some 82))], (I603, L, R, Y), 0, 0) (fun _ => rfl) ?_
            refine yi_D_callv rfl (q_wrong_f hW757 hn761) ?_
            rintro _ rfl
            show yi_D zi_Ms d zi_m94 k (185, [(4, .inl (-1)), (3, .inl z763), (2, .inl z606), (1, .inl (ld 0)), (0, .inr (.inr (some 82)))], [], (I603, L, R, Y), 0, 0) _
            refine yi_D_run 1 (186, [(4, .inl (-1)), (3, .inl z763), (2, .inl z606), (1, .inl (ld 0)), (0, .inr (.inr (some 82)))], [.inl 0], (I603, L, R, Y), 0, 0) (fun _ => rfl) ?_
            refine yi_D_reti rfl ?_
            exact ⟨_, _, rfl, hG759, Or.inr ⟨_, hx762, hz760, he605⟩⟩
