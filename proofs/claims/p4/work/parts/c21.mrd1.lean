/-! The check reader's steps. -/
def mt_A (I : Nat → Nat → Int) (te a : Nat) : Prop := I 82 7 = (a : Int) ∧ a ≤ te
/-- what a step of the reader leaves -/
def mt_G (I I' : Nat → Nat → Int) : Prop := ∀ p k, ¬ (p = 82 ∧ (k = 7 ∨ k = 8)) → I' p k = I p k
theorem mt_G_r (I : Nat → Nat → Int) : mt_G I I := fun _ _ _ => rfl
theorem mt_G_t {I I' I2 : Nat → Nat → Int} (h : mt_G I I') (h2 : mt_G I' I2) : mt_G I I2 := fun p k a => (h2 p k a).trans (h p k a)
theorem mt_G_F {I I' : Nat → Nat → Int} (h : mt_G I I') : mt_F I I' := ⟨fun p k a => h p k (by omega), fun z => by rw [h 82 13 (by omega)]; exact z⟩
theorem mt_f_ne {I L : Nat → Nat → Int} {R : Nat → Nat → Option Nat} {Y : (Nat → Nat) × (Nat → Nat) × Nat} {K P V : Nat → Int} {te b a : Nat} {ld : Nat → Int} {nm : Int → Int} (hW : mt_W I L R Y K P V te b ld nm) (ha : a ≤ te) {w : Int} (hw : 1 ≤ w) : 0 < sp_f P a w := by
  have h := (hW.2.1.2.1 a ha).2.2.1.1
  unfold sp_f
  omega
theorem q_isSign_z {d : Nat} {I L : Nat → Nat → Int} {R : Nat → Nat → Option Nat} {Y : (Nat → Nat) × (Nat → Nat) × Nat} {c : Int} (c0 : 33 ≤ c) {K P V : Nat → Int} {te b a : Nat} {ld : Nat → Int} {nm : Int → Int} (hW : mt_W I L R Y K P V te b ld nm) (hf : I 82 8 = 0) (hA : mt_A I te a) : yi_P zi_Ms d 62 [.inr (.inr (some 82)), .inl c] (I, L, R, Y) (fun r => ((K a = c) ∧ r = (some (.inl 1), (I, L, R, Y), 0, 0)) ∨ (¬ (K a = c) ∧ r = (some (.inl 0), (I, L, R, Y), 0, 0))) := by
  refine yi_P_of (M := zi_m62) rfl (fun d k => ?_)
  have hS := hW.1
  have ht := hW.2.1.1
  have ha := hA.2
  have hp := hW.2.1.2.1 a hA.2
  have hsg := mt_sg hW.2.1 hA.2 c0
  show yi_D zi_Ms d zi_m62 k (0, [(0, .inr (.inr (some 82))), (1, .inl c)], [], (I, L, R, Y), 0, 0) _
  refine yi_D_run 1 (1, [(0, .inr (.inr (some 82))), (1, .inl c)], [.inr (.inr (some 82))], (I, L, R, Y), 0, 0) (fun _ => rfl) ?_
  refine yi_D_gi (v := 0) rfl rfl rfl hf (fun _ => ?_)
  refine yi_D_if1 false rfl (by decide) ?_
  refine yi_D_run 1 (8, [(0, .inr (.inr (some 82))), (1, .inl c)], [.inr (.inr (some 82))], (I, L, R, Y), 0, 0) (fun _ => rfl) ?_
  refine yi_D_gr (v := some 84) rfl rfl rfl (ym_S_at hS (j := 1) rfl).1 (fun _ => ?_)
  refine yi_D_run 1 (12, [(0, .inr (.inr (some 82))), (1, .inl c)], [.inr (.inr (some 82)), .inr (.inr (some 84))], (I, L, R, Y), 0, 0) (fun _ => rfl) ?_
  refine yi_D_gi (v := (a : Int)) rfl rfl rfl hA.1 (fun _ => ?_)
  refine yi_D_il (v := I 84 a) rfl rfl rfl (fun _ _ => ?_)
  refine yi_D_run 1 (17, [(0, .inr (.inr (some 82))), (1, .inl c)], [.inl 3, .inl (I 84 a)], (I, L, R, Y), 0, 0) (fun _ => rfl) ?_
  by_cases h1 : (I 84 a) = 3
  · refine yi_D_if2 false rfl (yi_ne_f h1) ?_
    refine yi_D_run 1 (21, [(0, .inr (.inr (some 82))), (1, .inl c)], [.inr (.inr (some 82))], (I, L, R, Y), 0, 0) (fun _ => rfl) ?_
    refine yi_D_gr (v := some 86) rfl rfl rfl (ym_S_at hS (j := 3) rfl).1 (fun _ => ?_)
    refine yi_D_run 1 (25, [(0, .inr (.inr (some 82))), (1, .inl c)], [.inr (.inr (some 82)), .inr (.inr (some 86))], (I, L, R, Y), 0, 0) (fun _ => rfl) ?_
    refine yi_D_gi (v := (a : Int)) rfl rfl rfl hA.1 (fun _ => ?_)
    refine yi_D_ll (v := L 86 a) rfl rfl rfl (fun _ _ => ?_)
    refine yi_D_run 3 (32, [(0, .inr (.inr (some 82))), (1, .inl c)], [.inl (yi_lcmp (L 86 a) c)], (I, L, R, Y), 0, 0) (fun _ => rfl) ?_
    by_cases h2 : (L 86 a) = c
    · refine yi_D_if1 false rfl (yi_Lne_f h2) ?_
      refine yi_D_run 2 (40, [(0, .inr (.inr (some 82))), (1, .inl c)], [.inl 1], (I, L, R, Y), 0, 0) (fun _ => rfl) ?_
      refine yi_D_reti rfl ?_
      exact Or.inl ⟨by omega, rfl⟩
    · refine yi_D_if1 true rfl (yi_Lne_t h2) ?_
      refine yi_D_run 1 (40, [(0, .inr (.inr (some 82))), (1, .inl c)], [.inl 0], (I, L, R, Y), 0, 0) (fun _ => rfl) ?_
      refine yi_D_reti rfl ?_
      exact Or.inr ⟨by omega, rfl⟩
  · refine yi_D_if2 true rfl (yi_ne_t h1) ?_
    refine yi_D_run 1 (40, [(0, .inr (.inr (some 82))), (1, .inl c)], [.inl 0], (I, L, R, Y), 0, 0) (fun _ => rfl) ?_
    refine yi_D_reti rfl ?_
    exact Or.inr ⟨by omega, rfl⟩
theorem q_isSign_f {d : Nat} {I L : Nat → Nat → Int} {R : Nat → Nat → Option Nat} {Y : (Nat → Nat) × (Nat → Nat) × Nat} {c : Int} {K P V : Nat → Int} {te b : Nat} {ld : Nat → Int} {nm : Int → Int} (hW : mt_W I L R Y K P V te b ld nm) (hf : 0 < I 82 8) : yi_P zi_Ms d 62 [.inr (.inr (some 82)), .inl c] (I, L, R, Y) (fun r => r = (some (.inl 0), (I, L, R, Y), 0, 0)) := by
  refine yi_P_of (M := zi_m62) rfl (fun d k => ?_)
  have hS := hW.1
  show yi_D zi_Ms d zi_m62 k (0, [(0, .inr (.inr (some 82))), (1, .inl c)], [], (I, L, R, Y), 0, 0) _
  refine yi_D_run 1 (1, [(0, .inr (.inr (some 82))), (1, .inl c)], [.inr (.inr (some 82))], (I, L, R, Y), 0, 0) (fun _ => rfl) ?_
  refine yi_D_gi (v := I 82 8) rfl rfl rfl rfl (fun _ => ?_)
  have h1 : ¬ ((I 82 8) = 0) := by omega
  refine yi_D_if1 true rfl (yi_ne_t h1) ?_
  refine yi_D_run 1 (40, [(0, .inr (.inr (some 82))), (1, .inl c)], [.inl 0], (I, L, R, Y), 0, 0) (fun _ => rfl) ?_
  refine yi_D_reti rfl ?_
  rfl
theorem q_isWord_z {d : Nat} {I L : Nat → Nat → Int} {R : Nat → Nat → Option Nat} {Y : (Nat → Nat) × (Nat → Nat) × Nat} {w : Int} (w0 : 0 ≤ w) (w1 : w < 29) {K P V : Nat → Int} {te b a : Nat} {ld : Nat → Int} {nm : Int → Int} (hW : mt_W I L R Y K P V te b ld nm) (hf : I 82 8 = 0) (hA : mt_A I te a) : yi_P zi_Ms d 64 [.inr (.inr (some 82)), .inl w] (I, L, R, Y) (fun r => ((K a = 4 + w) ∧ r = (some (.inl 1), (I, L, R, Y), 0, 0)) ∨ (¬ (K a = 4 + w) ∧ r = (some (.inl 0), (I, L, R, Y), 0, 0))) := by
  refine yi_P_of (M := zi_m64) rfl (fun d k => ?_)
  have hS := hW.1
  have ht := hW.2.1.1
  have ha := hA.2
  have hp := hW.2.1.2.1 a hA.2
  have hsg := mt_wd hW.2.1 hA.2 w0 w1
  show yi_D zi_Ms d zi_m64 k (0, [(0, .inr (.inr (some 82))), (1, .inl w)], [], (I, L, R, Y), 0, 0) _
  refine yi_D_run 1 (1, [(0, .inr (.inr (some 82))), (1, .inl w)], [.inr (.inr (some 82))], (I, L, R, Y), 0, 0) (fun _ => rfl) ?_
  refine yi_D_gi (v := 0) rfl rfl rfl hf (fun _ => ?_)
  refine yi_D_if1 false rfl (by decide) ?_
  refine yi_D_run 1 (8, [(0, .inr (.inr (some 82))), (1, .inl w)], [.inr (.inr (some 82))], (I, L, R, Y), 0, 0) (fun _ => rfl) ?_
  refine yi_D_gr (v := some 84) rfl rfl rfl (ym_S_at hS (j := 1) rfl).1 (fun _ => ?_)
  refine yi_D_run 1 (12, [(0, .inr (.inr (some 82))), (1, .inl w)], [.inr (.inr (some 82)), .inr (.inr (some 84))], (I, L, R, Y), 0, 0) (fun _ => rfl) ?_
  refine yi_D_gi (v := (a : Int)) rfl rfl rfl hA.1 (fun _ => ?_)
  refine yi_D_il (v := I 84 a) rfl rfl rfl (fun _ _ => ?_)
  refine yi_D_run 1 (17, [(0, .inr (.inr (some 82))), (1, .inl w)], [.inl 1, .inl (I 84 a)], (I, L, R, Y), 0, 0) (fun _ => rfl) ?_
  by_cases h1 : (I 84 a) = 1
  · refine yi_D_if2 false rfl (yi_ne_f h1) ?_
    refine yi_D_run 1 (21, [(0, .inr (.inr (some 82))), (1, .inl w)], [.inr (.inr (some 82))], (I, L, R, Y), 0, 0) (fun _ => rfl) ?_
    refine yi_D_gr (v := some 86) rfl rfl rfl (ym_S_at hS (j := 3) rfl).1 (fun _ => ?_)
    refine yi_D_run 1 (25, [(0, .inr (.inr (some 82))), (1, .inl w)], [.inr (.inr (some 82)), .inr (.inr (some 86))], (I, L, R, Y), 0, 0) (fun _ => rfl) ?_
    refine yi_D_gi (v := (a : Int)) rfl rfl rfl hA.1 (fun _ => ?_)
    refine yi_D_ll (v := L 86 a) rfl rfl rfl (fun _ _ => ?_)
    refine yi_D_run 1 (30, [(0, .inr (.inr (some 82))), (1, .inl w)], [.inr (.inr (some 82)), .inr (.inl (L 86 a))], (I, L, R, Y), 0, 0) (fun _ => rfl) ?_
    refine yi_D_gr (v := some 87) rfl rfl rfl (ym_S_at hS (j := 4) rfl).1 (fun _ => ?_)
    refine yi_D_run 1 (34, [(0, .inr (.inr (some 82))), (1, .inl w)], [.inl w, .inr (.inr (some 87)), .inr (.inl (L 86 a))], (I, L, R, Y), 0, 0) (fun _ => rfl) ?_
    refine yi_D_ll (v := L 87 (w.toNat)) rfl rfl rfl (fun _ _ => ?_)
    refine yi_D_run 1 (36, [(0, .inr (.inr (some 82))), (1, .inl w)], [.inl (yi_lcmp (L 86 a) (L 87 (w.toNat)))], (I, L, R, Y), 0, 0) (fun _ => rfl) ?_
    by_cases h2 : (L 86 a) = (L 87 (w.toNat))
    · refine yi_D_if1 false rfl (yi_Lne_f h2) ?_
      refine yi_D_run 2 (44, [(0, .inr (.inr (some 82))), (1, .inl w)], [.inl 1], (I, L, R, Y), 0, 0) (fun _ => rfl) ?_
      refine yi_D_reti rfl ?_
      exact Or.inl ⟨by omega, rfl⟩
    · refine yi_D_if1 true rfl (yi_Lne_t h2) ?_
      refine yi_D_run 1 (44, [(0, .inr (.inr (some 82))), (1, .inl w)], [.inl 0], (I, L, R, Y), 0, 0) (fun _ => rfl) ?_
      refine yi_D_reti rfl ?_
      exact Or.inr ⟨by omega, rfl⟩
  · refine yi_D_if2 true rfl (yi_ne_t h1) ?_
    refine yi_D_run 1 (44, [(0, .inr (.inr (some 82))), (1, .inl w)], [.inl 0], (I, L, R, Y), 0, 0) (fun _ => rfl) ?_
    refine yi_D_reti rfl ?_
    exact Or.inr ⟨by omega, rfl⟩
theorem q_isWord_f {d : Nat} {I L : Nat → Nat → Int} {R : Nat → Nat → Option Nat} {Y : (Nat → Nat) × (Nat → Nat) × Nat} {w : Int} {K P V : Nat → Int} {te b : Nat} {ld : Nat → Int} {nm : Int → Int} (hW : mt_W I L R Y K P V te b ld nm) (hf : 0 < I 82 8) : yi_P zi_Ms d 64 [.inr (.inr (some 82)), .inl w] (I, L, R, Y) (fun r => r = (some (.inl 0), (I, L, R, Y), 0, 0)) := by
  refine yi_P_of (M := zi_m64) rfl (fun d k => ?_)
  have hS := hW.1
  show yi_D zi_Ms d zi_m64 k (0, [(0, .inr (.inr (some 82))), (1, .inl w)], [], (I, L, R, Y), 0, 0) _
  refine yi_D_run 1 (1, [(0, .inr (.inr (some 82))), (1, .inl w)], [.inr (.inr (some 82))], (I, L, R, Y), 0, 0) (fun _ => rfl) ?_
  refine yi_D_gi (v := I 82 8) rfl rfl rfl rfl (fun _ => ?_)
  have h1 : ¬ ((I 82 8) = 0) := by omega
  refine yi_D_if1 true rfl (yi_ne_t h1) ?_
  refine yi_D_run 1 (44, [(0, .inr (.inr (some 82))), (1, .inl w)], [.inl 0], (I, L, R, Y), 0, 0) (fun _ => rfl) ?_
  refine yi_D_reti rfl ?_
  rfl
theorem q_wrong_z {d : Nat} {I L : Nat → Nat → Int} {R : Nat → Nat → Option Nat} {Y : (Nat → Nat) × (Nat → Nat) × Nat} {w : Int} (w0 : 1 ≤ w ∧ w ≤ 5) {K P V : Nat → Int} {te b a : Nat} {ld : Nat → Int} {nm : Int → Int} (hW : mt_W I L R Y K P V te b ld nm) (hf : I 82 8 = 0) (hA : mt_A I te a) : yi_P zi_Ms d 136 [.inr (.inr (some 82)), .inl w] (I, L, R, Y) (fun r => ∃ I', r = (none, (I', L, R, Y), 0, 0) ∧ (∀ p k, ¬ (p = 82 ∧ k = 8) → I' p k = I p k) ∧ I' 82 8 = sp_f P a w) := by
  refine yi_P_of (M := zi_m136) rfl (fun d k => ?_)
  have hS := hW.1
  have ht := hW.2.1.1
  have ha := hA.2
  have hp := hW.2.1.2.1 a hA.2
  have hp2 := hp.2.2.1
  show yi_D zi_Ms d zi_m136 k (0, [(0, .inr (.inr (some 82))), (1, .inl w)], [], (I, L, R, Y), 0, 0) _
  refine yi_D_run 1 (1, [(0, .inr (.inr (some 82))), (1, .inl w)], [.inr (.inr (some 82))], (I, L, R, Y), 0, 0) (fun _ => rfl) ?_
  refine yi_D_gi (v := 0) rfl rfl rfl hf (fun _ => ?_)
  refine yi_D_if1 false rfl (by decide) ?_
  refine yi_D_run 4 (12, [(0, .inr (.inr (some 82))), (1, .inl w)], [.inr (.inr (some 82)), .inl 16, .inl w, .inr (.inr (some 82))], (I, L, R, Y), 0, 0) (fun _ => rfl) ?_
  refine yi_D_gr (v := some 85) rfl rfl rfl (ym_S_at hS (j := 2) rfl).1 (fun _ => ?_)
  refine yi_D_run 1 (16, [(0, .inr (.inr (some 82))), (1, .inl w)], [.inr (.inr (some 82)), .inr (.inr (some 85)), .inl 16, .inl w, .inr (.inr (some 82))], (I, L, R, Y), 0, 0) (fun _ => rfl) ?_
  refine yi_D_gi (v := (a : Int)) rfl rfl rfl hA.1 (fun _ => ?_)
  refine yi_D_il (v := P a) rfl rfl hp.2.1 (fun _ _ => ?_)
  refine yi_D_imul rfl (16 * (P a)) (yi_wn (by omega) (by omega)) ?_
  refine yi_D_iadd rfl (w + (16 * (P a))) (yi_wn (by omega) (by omega)) ?_
  refine yi_D_pi rfl (fun _ => ?_)
  generalize w2 : yi_u I 82 8 (w + (16 * (P a))) = I1
  refine yi_D_retv rfl ?_
  refine ⟨_, rfl, (fun p k hp0 => by rw [← w2, yi_u_ne _ _ (by omega)]), ?_⟩
  rw [← w2, yi_u_eq]
  rfl
theorem q_wrong_f {d : Nat} {I L : Nat → Nat → Int} {R : Nat → Nat → Option Nat} {Y : (Nat → Nat) × (Nat → Nat) × Nat} {w : Int} {K P V : Nat → Int} {te b : Nat} {ld : Nat → Int} {nm : Int → Int} (hW : mt_W I L R Y K P V te b ld nm) (hf : 0 < I 82 8) : yi_P zi_Ms d 136 [.inr (.inr (some 82)), .inl w] (I, L, R, Y) (fun r => r = (none, (I, L, R, Y), 0, 0)) := by
  refine yi_P_of (M := zi_m136) rfl (fun d k => ?_)
  have hS := hW.1
  show yi_D zi_Ms d zi_m136 k (0, [(0, .inr (.inr (some 82))), (1, .inl w)], [], (I, L, R, Y), 0, 0) _
  refine yi_D_run 1 (1, [(0, .inr (.inr (some 82))), (1, .inl w)], [.inr (.inr (some 82))], (I, L, R, Y), 0, 0) (fun _ => rfl) ?_
  refine yi_D_gi (v := I 82 8) rfl rfl rfl rfl (fun _ => ?_)
  have h1 : ¬ ((I 82 8) = 0) := by omega
  refine yi_D_if1 true rfl (yi_ne_t h1) ?_
  refine yi_D_retv rfl ?_
  rfl
theorem q_takeSign_z {d : Nat} {I L : Nat → Nat → Int} {R : Nat → Nat → Option Nat} {Y : (Nat → Nat) × (Nat → Nat) × Nat} {c : Int} (c0 : 33 ≤ c) {K P V : Nat → Int} {te b a : Nat} {ld : Nat → Int} {nm : Int → Int} (hW : mt_W I L R Y K P V te b ld nm) (hf : I 82 8 = 0) (hA : mt_A I te a) : yi_P zi_Ms d 118 [.inr (.inr (some 82)), .inl c] (I, L, R, Y) (fun r => (K a = c ∧ ∃ I', r = (none, (I', L, R, Y), 0, 0) ∧ mt_G I I' ∧ I' 82 8 = 0 ∧ mt_A I' te (a + 1)) ∨ (¬ K a = c ∧ ∃ I', r = (none, (I', L, R, Y), 0, 0) ∧ mt_G I I' ∧ I' 82 8 = sp_f P a 1)) := by
  refine yi_P_of (M := zi_m118) rfl (fun d k => ?_)
  have hS := hW.1
  have ht := hW.2.1.1
  have ha := hA.2
  have hp := hW.2.1.2.1 a hA.2
  show yi_D zi_Ms d zi_m118 k (0, [(0, .inr (.inr (some 82))), (1, .inl c)], [], (I, L, R, Y), 0, 0) _
  refine yi_D_run 2 (2, [(0, .inr (.inr (some 82))), (1, .inl c)], [.inl c, .inr (.inr (some 82))], (I, L, R, Y), 0, 0) (fun _ => rfl) ?_
  refine yi_D_callv rfl (q_isSign_z (by omega) hW hf hA) ?_
  rintro _ (⟨c1, rfl⟩ | ⟨c1, rfl⟩)
  · show yi_D zi_Ms d zi_m118 k (5, [(0, .inr (.inr (some 82))), (1, .inl c)], [.inl 1], (I, L, R, Y), 0, 0) _
    refine yi_D_if1 false rfl (by decide) ?_
    refine yi_D_run 2 (10, [(0, .inr (.inr (some 82))), (1, .inl c)], [.inr (.inr (some 82)), .inr (.inr (some 82))], (I, L, R, Y), 0, 0) (fun _ => rfl) ?_
    refine yi_D_gi (v := (a : Int)) rfl rfl rfl hA.1 (fun _ => ?_)
    refine yi_D_run 1 (14, [(0, .inr (.inr (some 82))), (1, .inl c)], [.inl 1, .inl (a : Int), .inr (.inr (some 82))], (I, L, R, Y), 0, 0) (fun _ => rfl) ?_
    refine yi_D_iadd rfl ((a : Int) + 1) (yi_wn (by omega) (by omega)) ?_
    refine yi_D_pi rfl (fun _ => ?_)
    generalize w3 : yi_u I 82 7 ((a : Int) + 1) = I2
    have hGn4 : mt_G I I2 := fun p k hp => by rw [← w3, yi_u_ne _ _ (by omega)]
    have hW5 := mt_W_t hW (mt_G_F hGn4)
    have hF6 := (mt_G_F hGn4)
    have hG7 := hGn4
    have hf8 : I2 82 8 = 0 := by rw [← w3, yi_u_ne _ _ (by omega)]; exact hf
    have hA9 : mt_A I2 te (a + 1) := ⟨by rw [← w3, yi_u_eq]; omega, mt_lt hW5.2.1 hA.2 (by omega)⟩
    refine yi_D_run 1 (26, [(0, .inr (.inr (some 82))), (1, .inl c)], [], (I2, L, R, Y), 0, 0) (fun _ => rfl) ?_
    refine yi_D_retv rfl ?_
    first
    | exact Or.inl ⟨by omega, _, rfl, hG7, hf8, hA9⟩
    | exact Or.inr ⟨by omega, _, rfl, hG7, hf8, hA9⟩
  · show yi_D zi_Ms d zi_m118 k (5, [(0, .inr (.inr (some 82))), (1, .inl c)], [.inl 0], (I, L, R, Y), 0, 0) _
    refine yi_D_if1 true rfl (by decide) ?_
    refine yi_D_run 2 (23, [(0, .inr (.inr (some 82))), (1, .inl c)], [.inl 1, .inr (.inr (some 82))], (I, L, R, Y), 0, 0) (fun _ => rfl) ?_
    refine yi_D_callv rfl (q_wrong_z ⟨by omega, by omega⟩ hW hf hA) ?_
    rintro _ ⟨I10, rfl, hg11, he12⟩
    have hGw13 : mt_G I I10 := fun p k hp => hg11 p k (by omega)
    have hW14 := mt_W_t hW (mt_G_F hGw13)
    have hF15 := (mt_G_F hGw13)
    have hG16 := hGw13
    have hz17 : 0 < sp_f P a 1 := mt_f_ne hW hA.2 (by omega)
    have hn18 : 0 < I10 82 8 := by rw [he12]; exact hz17
    show yi_D zi_Ms d zi_m118 k (26, [(0, .inr (.inr (some 82))), (1, .inl c)], [], (I10, L, R, Y), 0, 0) _
    refine yi_D_retv rfl ?_
    first
    | exact Or.inr ⟨by omega, _, rfl, hG16, he12⟩
theorem q_takeSign_f {d : Nat} {I L : Nat → Nat → Int} {R : Nat → Nat → Option Nat} {Y : (Nat → Nat) × (Nat → Nat) × Nat} {c : Int} {K P V : Nat → Int} {te b : Nat} {ld : Nat → Int} {nm : Int → Int} (hW : mt_W I L R Y K P V te b ld nm) (hf : 0 < I 82 8) : yi_P zi_Ms d 118 [.inr (.inr (some 82)), .inl c] (I, L, R, Y) (fun r => r = (none, (I, L, R, Y), 0, 0)) := by
  refine yi_P_of (M := zi_m118) rfl (fun d k => ?_)
  have hS := hW.1
  show yi_D zi_Ms d zi_m118 k (0, [(0, .inr (.inr (some 82))), (1, .inl c)], [], (I, L, R, Y), 0, 0) _
  refine yi_D_run 2 (2, [(0, .inr (.inr (some 82))), (1, .inl c)], [.inl c, .inr (.inr (some 82))], (I, L, R, Y), 0, 0) (fun _ => rfl) ?_
  refine yi_D_callv rfl (q_isSign_f hW hf) ?_
  rintro _ rfl
  show yi_D zi_Ms d zi_m118 k (5, [(0, .inr (.inr (some 82))), (1, .inl c)], [.inl 0], (I, L, R, Y), 0, 0) _
  refine yi_D_if1 true rfl (by decide) ?_
  refine yi_D_run 2 (23, [(0, .inr (.inr (some 82))), (1, .inl c)], [.inl 1, .inr (.inr (some 82))], (I, L, R, Y), 0, 0) (fun _ => rfl) ?_
  refine yi_D_callv rfl (q_wrong_f hW hf) ?_
  rintro _ rfl
  show yi_D zi_Ms d zi_m118 k (26, [(0, .inr (.inr (some 82))), (1, .inl c)], [], (I, L, R, Y), 0, 0) _
  refine yi_D_retv rfl ?_
  rfl
theorem q_hasSign_z {d : Nat} {I L : Nat → Nat → Int} {R : Nat → Nat → Option Nat} {Y : (Nat → Nat) × (Nat → Nat) × Nat} {c : Int} (c0 : 33 ≤ c) {K P V : Nat → Int} {te b a : Nat} {ld : Nat → Int} {nm : Int → Int} (hW : mt_W I L R Y K P V te b ld nm) (hf : I 82 8 = 0) (hA : mt_A I te a) : yi_P zi_Ms d 39 [.inr (.inr (some 82)), .inl c] (I, L, R, Y) (fun r => (K a = c ∧ ∃ I', r = (some (.inl 1), (I', L, R, Y), 0, 0) ∧ mt_G I I' ∧ I' 82 8 = 0 ∧ mt_A I' te (a + 1)) ∨ (¬ K a = c ∧ ∃ I', r = (some (.inl 0), (I', L, R, Y), 0, 0) ∧ mt_G I I' ∧ I' 82 8 = 0 ∧ mt_A I' te a)) := by
  refine yi_P_of (M := zi_m39) rfl (fun d k => ?_)
  have hS := hW.1
  have ht := hW.2.1.1
  have ha := hA.2
  have hp := hW.2.1.2.1 a hA.2
  show yi_D zi_Ms d zi_m39 k (0, [(0, .inr (.inr (some 82))), (1, .inl c)], [], (I, L, R, Y), 0, 0) _
  refine yi_D_run 2 (2, [(0, .inr (.inr (some 82))), (1, .inl c)], [.inl c, .inr (.inr (some 82))], (I, L, R, Y), 0, 0) (fun _ => rfl) ?_
  refine yi_D_callv rfl (q_isSign_z (by omega) hW hf hA) ?_
  rintro _ (⟨c1, rfl⟩ | ⟨c1, rfl⟩)
  · show yi_D zi_Ms d zi_m39 k (5, [(0, .inr (.inr (some 82))), (1, .inl c)], [.inl 1], (I, L, R, Y), 0, 0) _
    refine yi_D_run 3 (8, [(2, .inl 1), (0, .inr (.inr (some 82))), (1, .inl c)], [.inr (.inr (some 82)), .inr (.inr (some 82))], (I, L, R, Y), 0, 0) (fun _ => rfl) ?_
    refine yi_D_gi (v := (a : Int)) rfl rfl rfl hA.1 (fun _ => ?_)
    refine yi_D_run 1 (12, [(2, .inl 1), (0, .inr (.inr (some 82))), (1, .inl c)], [.inl 1, .inl (a : Int), .inr (.inr (some 82))], (I, L, R, Y), 0, 0) (fun _ => rfl) ?_
    refine yi_D_if1 false rfl (by decide) ?_
    refine yi_D_run 2 (20, [(2, .inl 1), (0, .inr (.inr (some 82))), (1, .inl c)], [.inl 1, .inl (a : Int), .inr (.inr (some 82))], (I, L, R, Y), 0, 0) (fun _ => rfl) ?_
    refine yi_D_iadd rfl ((a : Int) + 1) (yi_wn (by omega) (by omega)) ?_
    refine yi_D_pi rfl (fun _ => ?_)
    generalize w3 : yi_u I 82 7 ((a : Int) + 1) = I2
    have hGn4 : mt_G I I2 := fun p k hp => by rw [← w3, yi_u_ne _ _ (by omega)]
    have hW5 := mt_W_t hW (mt_G_F hGn4)
    have hF6 := (mt_G_F hGn4)
    have hG7 := hGn4
    have hf8 : I2 82 8 = 0 := by rw [← w3, yi_u_ne _ _ (by omega)]; exact hf
    have hA9 : mt_A I2 te (a + 1) := ⟨by rw [← w3, yi_u_eq]; omega, mt_lt hW5.2.1 hA.2 (by omega)⟩
    refine yi_D_run 1 (25, [(2, .inl 1), (0, .inr (.inr (some 82))), (1, .inl c)], [.inl 1], (I2, L, R, Y), 0, 0) (fun _ => rfl) ?_
    refine yi_D_reti rfl ?_
    first
    | exact Or.inl ⟨by omega, _, rfl, hG7, hf8, hA9⟩
    | exact Or.inr ⟨by omega, _, rfl, hG7, hf8, hA9⟩
  · show yi_D zi_Ms d zi_m39 k (5, [(0, .inr (.inr (some 82))), (1, .inl c)], [.inl 0], (I, L, R, Y), 0, 0) _
    refine yi_D_run 3 (8, [(2, .inl 0), (0, .inr (.inr (some 82))), (1, .inl c)], [.inr (.inr (some 82)), .inr (.inr (some 82))], (I, L, R, Y), 0, 0) (fun _ => rfl) ?_
    refine yi_D_gi (v := (a : Int)) rfl rfl rfl hA.1 (fun _ => ?_)
    refine yi_D_run 1 (12, [(2, .inl 0), (0, .inr (.inr (some 82))), (1, .inl c)], [.inl 0, .inl (a : Int), .inr (.inr (some 82))], (I, L, R, Y), 0, 0) (fun _ => rfl) ?_
    refine yi_D_if1 true rfl (by decide) ?_
    refine yi_D_run 1 (20, [(2, .inl 0), (0, .inr (.inr (some 82))), (1, .inl c)], [.inl 0, .inl (a : Int), .inr (.inr (some 82))], (I, L, R, Y), 0, 0) (fun _ => rfl) ?_
    refine yi_D_iadd rfl ((a : Int) + 0) (yi_wn (by omega) (by omega)) ?_
    refine yi_D_pi rfl (fun _ => ?_)
    generalize w11 : yi_u I 82 7 ((a : Int) + 0) = I10
    have hGn12 : mt_G I I10 := fun p k hp => by rw [← w11, yi_u_ne _ _ (by omega)]
    have hW13 := mt_W_t hW (mt_G_F hGn12)
    have hF14 := (mt_G_F hGn12)
    have hG15 := hGn12
    have hf16 : I10 82 8 = 0 := by rw [← w11, yi_u_ne _ _ (by omega)]; exact hf
    have hA17 : mt_A I10 te a := ⟨by rw [← w11, yi_u_eq]; omega, hA.2⟩
    refine yi_D_run 1 (25, [(2, .inl 0), (0, .inr (.inr (some 82))), (1, .inl c)], [.inl 0], (I10, L, R, Y), 0, 0) (fun _ => rfl) ?_
    refine yi_D_reti rfl ?_
    first
    | exact Or.inl ⟨by omega, _, rfl, hG15, hf16, hA17⟩
    | exact Or.inr ⟨by omega, _, rfl, hG15, hf16, hA17⟩
theorem q_hasSign_f {d : Nat} {I L : Nat → Nat → Int} {R : Nat → Nat → Option Nat} {Y : (Nat → Nat) × (Nat → Nat) × Nat} {c : Int} {K P V : Nat → Int} {te b : Nat} {ld : Nat → Int} {nm : Int → Int} (hW : mt_W I L R Y K P V te b ld nm) (hf : 0 < I 82 8) : yi_P zi_Ms d 39 [.inr (.inr (some 82)), .inl c] (I, L, R, Y) (fun r => ∃ I', r = (some (.inl 0), (I', L, R, Y), 0, 0) ∧ mt_G I I' ∧ I' 82 8 = I 82 8) := by
  refine yi_P_of (M := zi_m39) rfl (fun d k => ?_)
  have hS := hW.1
  show yi_D zi_Ms d zi_m39 k (0, [(0, .inr (.inr (some 82))), (1, .inl c)], [], (I, L, R, Y), 0, 0) _
  refine yi_D_run 2 (2, [(0, .inr (.inr (some 82))), (1, .inl c)], [.inl c, .inr (.inr (some 82))], (I, L, R, Y), 0, 0) (fun _ => rfl) ?_
  refine yi_D_callv rfl (q_isSign_f hW hf) ?_
  rintro _ rfl
  show yi_D zi_Ms d zi_m39 k (5, [(0, .inr (.inr (some 82))), (1, .inl c)], [.inl 0], (I, L, R, Y), 0, 0) _
  refine yi_D_run 3 (8, [(2, .inl 0), (0, .inr (.inr (some 82))), (1, .inl c)], [.inr (.inr (some 82)), .inr (.inr (some 82))], (I, L, R, Y), 0, 0) (fun _ => rfl) ?_
  refine yi_D_gi (v := I 82 7) rfl rfl rfl rfl (fun _ => ?_)
  refine yi_D_run 1 (12, [(2, .inl 0), (0, .inr (.inr (some 82))), (1, .inl c)], [.inl 0, .inl (I 82 7), .inr (.inr (some 82))], (I, L, R, Y), 0, 0) (fun _ => rfl) ?_
  refine yi_D_if1 true rfl (by decide) ?_
  refine yi_D_run 2 (21, [(2, .inl 0), (0, .inr (.inr (some 82))), (1, .inl c)], [.inl (yi_w ((I 82 7) + 0)), .inr (.inr (some 82))], (I, L, R, Y), 0, 0) (fun _ => rfl) ?_
  refine yi_D_pi rfl (fun _ => ?_)
  generalize w2 : yi_u I 82 7 (yi_w ((I 82 7) + 0)) = I1
  have hGn3 : mt_G I I1 := fun p k hp => by rw [← w2, yi_u_ne _ _ (by omega)]
  have hW4 := mt_W_t hW (mt_G_F hGn3)
  have hF5 := (mt_G_F hGn3)
  have hG6 := hGn3
  have hf7 : 0 < I1 82 8 := by rw [← w2, yi_u_ne _ _ (by omega)]; exact hf
  refine yi_D_run 1 (25, [(2, .inl 0), (0, .inr (.inr (some 82))), (1, .inl c)], [.inl 0], (I1, L, R, Y), 0, 0) (fun _ => rfl) ?_
  refine yi_D_reti rfl ?_
  exact ⟨_, rfl, hG6, by rw [← w2, yi_u_ne _ _ (by omega)]⟩
theorem q_hasWord_z {d : Nat} {I L : Nat → Nat → Int} {R : Nat → Nat → Option Nat} {Y : (Nat → Nat) × (Nat → Nat) × Nat} {c : Int} (w0 : 0 ≤ c) (w1 : c < 29) {K P V : Nat → Int} {te b a : Nat} {ld : Nat → Int} {nm : Int → Int} (hW : mt_W I L R Y K P V te b ld nm) (hf : I 82 8 = 0) (hA : mt_A I te a) : yi_P zi_Ms d 40 [.inr (.inr (some 82)), .inl c] (I, L, R, Y) (fun r => (K a = 4 + c ∧ ∃ I', r = (some (.inl 1), (I', L, R, Y), 0, 0) ∧ mt_G I I' ∧ I' 82 8 = 0 ∧ mt_A I' te (a + 1)) ∨ (¬ K a = 4 + c ∧ ∃ I', r = (some (.inl 0), (I', L, R, Y), 0, 0) ∧ mt_G I I' ∧ I' 82 8 = 0 ∧ mt_A I' te a)) := by
  refine yi_P_of (M := zi_m40) rfl (fun d k => ?_)
  have hS := hW.1
  have ht := hW.2.1.1
  have ha := hA.2
  have hp := hW.2.1.2.1 a hA.2
  show yi_D zi_Ms d zi_m40 k (0, [(0, .inr (.inr (some 82))), (1, .inl c)], [], (I, L, R, Y), 0, 0) _
  refine yi_D_run 2 (2, [(0, .inr (.inr (some 82))), (1, .inl c)], [.inl c, .inr (.inr (some 82))], (I, L, R, Y), 0, 0) (fun _ => rfl) ?_
  refine yi_D_callv rfl (q_isWord_z (by omega) (by omega) hW hf hA) ?_
  rintro _ (⟨c1, rfl⟩ | ⟨c1, rfl⟩)
  · show yi_D zi_Ms d zi_m40 k (5, [(0, .inr (.inr (some 82))), (1, .inl c)], [.inl 1], (I, L, R, Y), 0, 0) _
    refine yi_D_run 3 (8, [(2, .inl 1), (0, .inr (.inr (some 82))), (1, .inl c)], [.inr (.inr (some 82)), .inr (.inr (some 82))], (I, L, R, Y), 0, 0) (fun _ => rfl) ?_
    refine yi_D_gi (v := (a : Int)) rfl rfl rfl hA.1 (fun _ => ?_)
    refine yi_D_run 1 (12, [(2, .inl 1), (0, .inr (.inr (some 82))), (1, .inl c)], [.inl 1, .inl (a : Int), .inr (.inr (some 82))], (I, L, R, Y), 0, 0) (fun _ => rfl) ?_
    refine yi_D_if1 false rfl (by decide) ?_
    refine yi_D_run 2 (20, [(2, .inl 1), (0, .inr (.inr (some 82))), (1, .inl c)], [.inl 1, .inl (a : Int), .inr (.inr (some 82))], (I, L, R, Y), 0, 0) (fun _ => rfl) ?_
    refine yi_D_iadd rfl ((a : Int) + 1) (yi_wn (by omega) (by omega)) ?_
    refine yi_D_pi rfl (fun _ => ?_)
    generalize w3 : yi_u I 82 7 ((a : Int) + 1) = I2
    have hGn4 : mt_G I I2 := fun p k hp => by rw [← w3, yi_u_ne _ _ (by omega)]
    have hW5 := mt_W_t hW (mt_G_F hGn4)
    have hF6 := (mt_G_F hGn4)
    have hG7 := hGn4
    have hf8 : I2 82 8 = 0 := by rw [← w3, yi_u_ne _ _ (by omega)]; exact hf
    have hA9 : mt_A I2 te (a + 1) := ⟨by rw [← w3, yi_u_eq]; omega, mt_lt hW5.2.1 hA.2 (by omega)⟩
    refine yi_D_run 1 (25, [(2, .inl 1), (0, .inr (.inr (some 82))), (1, .inl c)], [.inl 1], (I2, L, R, Y), 0, 0) (fun _ => rfl) ?_
    refine yi_D_reti rfl ?_
    first
    | exact Or.inl ⟨by omega, _, rfl, hG7, hf8, hA9⟩
    | exact Or.inr ⟨by omega, _, rfl, hG7, hf8, hA9⟩
  · show yi_D zi_Ms d zi_m40 k (5, [(0, .inr (.inr (some 82))), (1, .inl c)], [.inl 0], (I, L, R, Y), 0, 0) _
    refine yi_D_run 3 (8, [(2, .inl 0), (0, .inr (.inr (some 82))), (1, .inl c)], [.inr (.inr (some 82)), .inr (.inr (some 82))], (I, L, R, Y), 0, 0) (fun _ => rfl) ?_
    refine yi_D_gi (v := (a : Int)) rfl rfl rfl hA.1 (fun _ => ?_)
    refine yi_D_run 1 (12, [(2, .inl 0), (0, .inr (.inr (some 82))), (1, .inl c)], [.inl 0, .inl (a : Int), .inr (.inr (some 82))], (I, L, R, Y), 0, 0) (fun _ => rfl) ?_
    refine yi_D_if1 true rfl (by decide) ?_
    refine yi_D_run 1 (20, [(2, .inl 0), (0, .inr (.inr (some 82))), (1, .inl c)], [.inl 0, .inl (a : Int), .inr (.inr (some 82))], (I, L, R, Y), 0, 0) (fun _ => rfl) ?_
    refine yi_D_iadd rfl ((a : Int) + 0) (yi_wn (by omega) (by omega)) ?_
    refine yi_D_pi rfl (fun _ => ?_)
    generalize w11 : yi_u I 82 7 ((a : Int) + 0) = I10
    have hGn12 : mt_G I I10 := fun p k hp => by rw [← w11, yi_u_ne _ _ (by omega)]
    have hW13 := mt_W_t hW (mt_G_F hGn12)
    have hF14 := (mt_G_F hGn12)
    have hG15 := hGn12
    have hf16 : I10 82 8 = 0 := by rw [← w11, yi_u_ne _ _ (by omega)]; exact hf
    have hA17 : mt_A I10 te a := ⟨by rw [← w11, yi_u_eq]; omega, hA.2⟩
    refine yi_D_run 1 (25, [(2, .inl 0), (0, .inr (.inr (some 82))), (1, .inl c)], [.inl 0], (I10, L, R, Y), 0, 0) (fun _ => rfl) ?_
    refine yi_D_reti rfl ?_
    first
    | exact Or.inl ⟨by omega, _, rfl, hG15, hf16, hA17⟩
    | exact Or.inr ⟨by omega, _, rfl, hG15, hf16, hA17⟩
theorem q_hasWord_f {d : Nat} {I L : Nat → Nat → Int} {R : Nat → Nat → Option Nat} {Y : (Nat → Nat) × (Nat → Nat) × Nat} {c : Int} {K P V : Nat → Int} {te b : Nat} {ld : Nat → Int} {nm : Int → Int} (hW : mt_W I L R Y K P V te b ld nm) (hf : 0 < I 82 8) : yi_P zi_Ms d 40 [.inr (.inr (some 82)), .inl c] (I, L, R, Y) (fun r => ∃ I', r = (some (.inl 0), (I', L, R, Y), 0, 0) ∧ mt_G I I' ∧ I' 82 8 = I 82 8) := by
  refine yi_P_of (M := zi_m40) rfl (fun d k => ?_)
  have hS := hW.1
  show yi_D zi_Ms d zi_m40 k (0, [(0, .inr (.inr (some 82))), (1, .inl c)], [], (I, L, R, Y), 0, 0) _
  refine yi_D_run 2 (2, [(0, .inr (.inr (some 82))), (1, .inl c)], [.inl c, .inr (.inr (some 82))], (I, L, R, Y), 0, 0) (fun _ => rfl) ?_
  refine yi_D_callv rfl (q_isWord_f hW hf) ?_
  rintro _ rfl
  show yi_D zi_Ms d zi_m40 k (5, [(0, .inr (.inr (some 82))), (1, .inl c)], [.inl 0], (I, L, R, Y), 0, 0) _
  refine yi_D_run 3 (8, [(2, .inl 0), (0, .inr (.inr (some 82))), (1, .inl c)], [.inr (.inr (some 82)), .inr (.inr (some 82))], (I, L, R, Y), 0, 0) (fun _ => rfl) ?_
  refine yi_D_gi (v := I 82 7) rfl rfl rfl rfl (fun _ => ?_)
  refine yi_D_run 1 (12, [(2, .inl 0), (0, .inr (.inr (some 82))), (1, .inl c)], [.inl 0, .inl (I 82 7), .inr (.inr (some 82))], (I, L, R, Y), 0, 0) (fun _ => rfl) ?_
  refine yi_D_if1 true rfl (by decide) ?_
  refine yi_D_run 2 (21, [(2, .inl 0), (0, .inr (.inr (some 82))), (1, .inl c)], [.inl (yi_w ((I 82 7) + 0)), .inr (.inr (some 82))], (I, L, R, Y), 0, 0) (fun _ => rfl) ?_
  refine yi_D_pi rfl (fun _ => ?_)
  generalize w2 : yi_u I 82 7 (yi_w ((I 82 7) + 0)) = I1
  have hGn3 : mt_G I I1 := fun p k hp => by rw [← w2, yi_u_ne _ _ (by omega)]
  have hW4 := mt_W_t hW (mt_G_F hGn3)
  have hF5 := (mt_G_F hGn3)
  have hG6 := hGn3
  have hf7 : 0 < I1 82 8 := by rw [← w2, yi_u_ne _ _ (by omega)]; exact hf
  refine yi_D_run 1 (25, [(2, .inl 0), (0, .inr (.inr (some 82))), (1, .inl c)], [.inl 0], (I1, L, R, Y), 0, 0) (fun _ => rfl) ?_
  refine yi_D_reti rfl ?_
  exact ⟨_, rfl, hG6, by rw [← w2, yi_u_ne _ _ (by omega)]⟩
