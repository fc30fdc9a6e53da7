/-! The check reads a saying, a formula that is asked: with codes. The check's ask. -/
def ra_I (I I' : Nat → Nat → Int) : Prop := ∀ p k, ¬ (p = 82 ∧ (k = 0 ∨ k = 2 ∨ k = 3 ∨ k = 7 ∨ k = 8 ∨ k = 13 ∨ k = 20 ∨ k = 33)) ∧ ¬ p = 84 ∧ ¬ p = 85 ∧ ¬ (p = 89 ∧ 1100 ≤ k) ∧ ¬ (p = 90 ∧ 1100 ≤ k) → I' p k = I p k
theorem ra_f {I J J' : Nat → Nat → Int} (h : ra_I I J) (g : mt_F J J') : ra_I I J' := fun p k e => (g.1 p k (by omega)).trans (h p k e)
theorem ra_8 {I J J' : Nat → Nat → Int} (h : ra_I I J) (g : ∀ p k, ¬ (p = 82 ∧ k = 8) → J' p k = J p k) : ra_I I J' := fun p k e => (g p k (by omega)).trans (h p k e)
theorem q_rfC {d : Nat} {I L : Nat → Nat → Int} {R : Nat → Nat → Option Nat} {Y : (Nat → Nat) × (Nat → Nat) × Nat} {K P V : Nat → Int} {te b a : Nat} {ld : Nat → Int} {nm : Int → Int} {gg : Nat → Int × Int} (hW : mt_W I L R Y K P V te b ld nm) (hf : I 82 8 = 0) (hA : mt_A I te a) (hm : mc_S gg I []) : yi_P zi_Ms d 96 [.inr (.inr (some 82)), .inl 0] (I, L, R, Y) (fun r => (∃ I' a' cs', r = (none, (I', L, R, Y), 0, 0) ∧ mt_F I I' ∧ sp_R K P V (3, a, 0, [10, 22], ld, nm, []) (.inl (7, a', 0, [22], ld, nm, cs')) ∧ I' 82 8 = 0 ∧ mt_A I' te a' ∧ mc_S gg I' cs' ∧ wfN 13 cs' ∧ ∀ x ∈ cs', pF x) ∨ (∃ I' f, r = (none, (I', L, R, Y), 0, 0) ∧ mt_F I I' ∧ sp_R K P V (3, a, 0, [10, 22], ld, nm, []) (.inr f) ∧ 0 < f ∧ I' 82 8 = f)) := (q_readFormulaC 0 [22] [] hW hf hA (by omega) hm).imp (fun r h => by
  obtain ⟨I', e, hF, ⟨a', cs', h1, -, h2, h3, h4, x, h5, h6, h7⟩ | ⟨f, h1, h2, h3⟩⟩ := h
  · have h5 : cs' = x := h5
    subst h5
    exact Or.inl ⟨I', a', cs', e, hF, h1, h2, h3, h4, h6, h7⟩
  · exact Or.inr ⟨I', f, e, hF, h1, h2, h3⟩)
theorem q_told2S {d : Nat} {I L : Nat → Nat → Int} {R : Nat → Nat → Option Nat} {Y : (Nat → Nat) × (Nat → Nat) × Nat} {K P V : Nat → Int} {te b : Nat} {ld : Nat → Int} {nm : Int → Int} (hW : mt_W I L R Y K P V te b ld nm) (hf : I 82 8 = 0) (hA : mt_A I te 0) : yi_P zi_Ms d 119 [.inr (.inr (some 82)), .inl 2, .inl (-1)] (I, L, R, Y) (fun r => (∃ I', r = (some (.inl (nm (V 0) - 8)), (I', L, R, Y), 0, 0) ∧ (K 0 = 3 ∧ (8 ≤ nm (V 0) ∧ nm (V 0) ≤ 12)) ∧ mt_G I I' ∧ I' 82 8 = 0 ∧ mt_A I' te 1) ∨ (∃ z I' g, r = (some (.inl z), (I', L, R, Y), 0, 0) ∧ mt_G I I' ∧ I' 82 8 = g ∧ 0 < g ∧ sy_F K P V ld nm g)) := (q_takeTold2_z hW hf hA).imp (fun r h => by
  rcases h with ⟨k0, k1, -, I', e, G, f, A⟩ | ⟨k0, z, I', e, G, f⟩ | ⟨⟨k0, k1⟩, z, I', e, G, f⟩ | ⟨⟨k0, k1, k2⟩, -⟩
  · exact Or.inl ⟨I', e, ⟨k0, k1⟩, G, f, A⟩
  · exact Or.inr ⟨z, I', _, e, G, f, mt_f_ne hW (by omega) (by omega), Or.inl ⟨k0, rfl⟩⟩
  · exact Or.inr ⟨z, I', _, e, G, f, mt_f_ne hW (by omega) (by omega), Or.inr (Or.inl ⟨k0, k1, rfl⟩)⟩
  · exfalso
    omega)
theorem q_readAskC {d : Nat} {I L : Nat → Nat → Int} {R : Nat → Nat → Option Nat} {Y : (Nat → Nat) × (Nat → Nat) × Nat} (hS : ym_S (R, Y)) {s : Nat → Int} {n : Nat} {ld : Nat → Int} {nm : Int → Int} (hn : n ≤ 1000) (h2 : I 82 2 = (n : Int)) (ht : ∀ i, i < n → I 83 i = s i) (hWd : ∀ w : Nat, w < 32 → L 87 w = sp_W37.getD w 0) (hlm : lm_R ld nm I L) : yi_P zi_Ms d 93 [.inr (.inr (some 82)), .inl 0] (I, L, R, Y) (fun r => ∃ I' L' f, r = (some (.inl 1100), (I', L', R, Y), 0, 0) ∧ I' 82 8 = f ∧ 0 ≤ f ∧ sp_R (tk_Ks s n) (tk_Ps s n) (tk_Vs s n) (3, 0, 0, [10, 22], ld, nm, []) (.inr f) ∧ ra_I I I' ∧ (∀ p k, p ≠ 86 → L' p k = L p k) ∧ (f = 0 → ∃ a cs, (sp_R (tk_Ks s n) (tk_Ps s n) (tk_Vs s n) (3, 0, 0, [10, 22], ld, nm, []) (.inl (7, a, 0, [22], ld, nm, cs)) ∧ tk_Ks s n a = 59 ∧ tk_Ks s n (a + 1) = 0) ∧ mc_S (fun k => (I 89 k, I 90 k)) I' (cs ++ [(0, 0)]) ∧ wfN 13 cs ∧ (∀ x ∈ cs, pF x) ∧ cs.length ≤ 1000)) := by
  refine yi_P_of (M := zi_m93) rfl (fun d k => ?_)
  show yi_D zi_Ms d zi_m93 k (0, [(0, .inr (.inr (some 82))), (1, .inl 0)], [], (I, L, R, Y), 0, 0) _
  refine yi_D_run 1 (1, [(0, .inr (.inr (some 82))), (1, .inl 0)], [.inr (.inr (some 82))], (I, L, R, Y), 0, 0) (fun _ => rfl) ?_
  refine yi_D_callv rfl (q_cutAll hS hn h2 ht hWd) ?_
  rintro _ ⟨I1, L2, rfl, hT3, e74, e85, e26, fI7, fL8⟩
  have hl1 : lm_R ld nm I1 L2 := lm_R_t hlm (fun k _ => fI7 88 k (by omega)) (fun k => fI7 93 k (by omega)) (fun k => fL8 91 k (by omega)) (fI7 82 18 (by omega))
  have hr1 : ra_I I I1 := fun p k e => fI7 p k (by omega)
  have hfl1 := fL8
  show yi_D zi_Ms d zi_m93 k (4, [(0, .inr (.inr (some 82))), (1, .inl 0)], [], (I1, L2, R, Y), 0, 0) _
  refine yi_D_run 2 (6, [(0, .inr (.inr (some 82))), (1, .inl 0)], [.inl 0, .inr (.inr (some 82))], (I1, L2, R, Y), 0, 0) (fun _ => rfl) ?_
  refine yi_D_pi rfl (fun _ => ?_)
  generalize w10 : yi_u I1 82 20 0 = I9
  refine yi_D_run 2 (11, [(0, .inr (.inr (some 82))), (1, .inl 0)], [.inl 0, .inr (.inr (some 82))], (I9, L2, R, Y), 0, 0) (fun _ => rfl) ?_
  refine yi_D_pi rfl (fun _ => ?_)
  generalize w12 : yi_u I9 82 13 0 = I11
  refine yi_D_run 2 (16, [(0, .inr (.inr (some 82))), (1, .inl 0)], [.inl 0, .inr (.inr (some 82))], (I11, L2, R, Y), 0, 0) (fun _ => rfl) ?_
  refine yi_D_if1 true rfl (by decide) ?_
  refine yi_D_run 1 (29, [(0, .inr (.inr (some 82))), (1, .inl 0)], [.inl (-1), .inr (.inr (some 82))], (I11, L2, R, Y), 0, 0) (fun _ => rfl) ?_
  refine yi_D_pi rfl (fun _ => ?_)
  generalize w14 : yi_u I11 82 33 (-1) = I13
  refine yi_D_run 2 (34, [(0, .inr (.inr (some 82))), (1, .inl 0)], [.inl 0, .inr (.inr (some 82))], (I13, L2, R, Y), 0, 0) (fun _ => rfl) ?_
  have f3 : ∀ p k, ¬ (p = 82 ∧ (k = 20 ∨ k = 13 ∨ k = 33)) → I13 p k = I1 p k := fun p k h => by rw [← w14, yi_u_ne _ _ (by omega), ← w12, yi_u_ne _ _ (by omega), ← w10, yi_u_ne _ _ (by omega)]
  have e20 : I13 82 20 = 0 := by rw [← w14, yi_u_ne _ _ (by omega), ← w12, yi_u_ne _ _ (by omega), ← w10, yi_u_eq]
  have e13 : I13 82 13 = 0 := by rw [← w14, yi_u_ne _ _ (by omega), ← w12, yi_u_eq]
  have hf0 : I13 82 8 = 0 := (f3 82 8 (by omega)).trans e85
  have hA0 : mt_A I13 (tk_te s n) 0 := ⟨(f3 82 7 (by omega)).trans e74, by omega⟩
  have hl3 : lm_R ld nm I13 L2 := lm_R_t hl1 (fun k _ => f3 88 k (by omega)) (fun k => f3 93 k (by omega)) (fun _ => rfl) (f3 82 18 (by omega))
  have hW3 : mt_W I13 L2 R Y (tk_Ks s n) (tk_Ps s n) (tk_Vs s n) (tk_te s n) 0 ld nm := ⟨hS, mt_T_t hT3 (fun k => f3 84 k (by omega)) (fun k => f3 85 k (by omega)), ⟨e20, Or.inr ⟨rfl, hl3.2.2.2.2⟩⟩, fun j hj => (by rw [Nat.zero_add]; exact hl3.1 j hj), hl3.2.1, fun j h1 h2 => (by rw [Nat.zero_add]; exact hl3.2.2.1 j h1 h2), hl3.2.2.2.1, by omega⟩
  have hr3 : ra_I I I13 := fun p k e => (f3 p k (by omega)).trans (hr1 p k e)
  have hm3 : mc_S (fun k => (I 89 k, I 90 k)) I13 [] := ⟨e13, fun k hk => absurd hk (Nat.not_lt_zero k), fun k hk => ⟨hr3 89 k (by omega), hr3 90 k (by omega)⟩⟩
  refine yi_D_callv rfl (q_rfC hW3 hf0 hA0 hm3) ?_
  rintro _ (⟨I15, a16, cs17, rfl, F18, sp19, f20, A21, m22, w23⟩ | ⟨I24, g25, rfl, F26, sp27, n28, f29⟩)
  · have hW2 := mt_W_t hW3 F18
    have hr2 := ra_f hr3 F18
    show yi_D zi_Ms d zi_m93 k (37, [(0, .inr (.inr (some 82))), (1, .inl 0)], [], (I15, L2, R, Y), 0, 0) _
    refine yi_D_run 3 (40, [(0, .inr (.inr (some 82))), (1, .inl 0)], [.inl 0, .inl 0, .inr (.inr (some 82))], (I15, L2, R, Y), 0, 0) (fun _ => rfl) ?_
    refine yi_D_callv rfl (q_emitC hW2 m22) ?_
    rintro _ ⟨I30, rfl, E31, hm32⟩
    have hW3 := mt_W_t hW2 (mt_E_F E31)
    have hr4 := ra_f hr2 (mt_E_F E31)
    have h833 : I30 82 8 = 0 := (E31.1 82 8 (by omega)).trans f20
    have hA34 : mt_A I30 (tk_te s n) a16 := ⟨(E31.1 82 7 (by omega)).trans A21.1, A21.2⟩
    show yi_D zi_Ms d zi_m93 k (43, [(0, .inr (.inr (some 82))), (1, .inl 0)], [], (I30, L2, R, Y), 0, 0) _
    refine yi_D_run 2 (46, [(0, .inr (.inr (some 82))), (1, .inl 0)], [.inl 59, .inr (.inr (some 82))], (I30, L2, R, Y), 0, 0) (fun _ => rfl) ?_
    refine yi_D_callv rfl (q_takeSign_z (by omega) hW3 h833 hA34) ?_
    rintro _ (⟨k35, I36, rfl, G37, f38, A39⟩ | ⟨k40, I41, rfl, G42, f43⟩)
    · have hW4 := mt_W_t hW3 (mt_G_F G37)
      have hme := mt_end hW4.2.1 A39.2
      have hr5 := ra_f hr4 (mt_G_F G37)
      have hm5 := mc_G hm32 G37
      show yi_D zi_Ms d zi_m93 k (49, [(0, .inr (.inr (some 82))), (1, .inl 0)], [], (I36, L2, R, Y), 0, 0) _
      refine yi_D_run 1 (50, [(0, .inr (.inr (some 82))), (1, .inl 0)], [.inr (.inr (some 82))], (I36, L2, R, Y), 0, 0) (fun _ => rfl) ?_
      refine yi_D_gi (v := 0) rfl rfl rfl f38 (fun _ => ?_)
      refine yi_D_if1 false rfl (by decide) ?_
      refine yi_D_run 1 (57, [(0, .inr (.inr (some 82))), (1, .inl 0)], [.inr (.inr (some 82))], (I36, L2, R, Y), 0, 0) (fun _ => rfl) ?_
      refine yi_D_gr (v := some 84) rfl rfl rfl (ym_S_at hS (j := 1) rfl).1 (fun _ => ?_)
      refine yi_D_run 1 (61, [(0, .inr (.inr (some 82))), (1, .inl 0)], [.inr (.inr (some 82)), .inr (.inr (some 84))], (I36, L2, R, Y), 0, 0) (fun _ => rfl) ?_
      refine yi_D_gi (v := ((a16 + 1 : Nat) : Int)) rfl rfl rfl A39.1 (fun _ => ?_)
      have h84 : I36 84 (((a16 + 1 : Nat) : Int).toNat) = I36 84 (a16 + 1) := congrArg (I36 84) (by omega)
      refine yi_D_il (v := I36 84 (a16 + 1)) rfl rfl h84 (fun _ _ => ?_)
      by_cases h45 : (I36 84 (a16 + 1)) = 0
      · refine yi_D_if1 true rfl (yi_eq_t h45) ?_
        refine yi_D_run 1 (76, [(0, .inr (.inr (some 82))), (1, .inl 0)], [.inl 1100], (I36, L2, R, Y), 0, 0) (fun _ => rfl) ?_
        refine yi_D_reti rfl ?_
        have hlen : (cs17).length ≤ 1000 := by
          have z := ln_0 (sp_ln_R (ln_mkF (by omega) (by decide)) (fun z => absurd z (by show ¬ 8 ≤ 3; omega)) sp19)
          have y := A39.2
          have x := hW4.2.1.1
          omega
        exact ⟨_, _, _, rfl, f38, Int.le_refl 0, sp_R_s sp19 (by rw [sp_s7, if_neg (by omega), if_neg (fun z => z (hme.1 (by assumption)))]), hr5, hfl1, fun _ => ⟨_, _, ⟨sp19, k35, hme.1 (by assumption)⟩, hm5, w23.1, w23.2, hlen⟩⟩
      · refine yi_D_if1 false rfl (yi_eq_f h45) ?_
        refine yi_D_run 2 (70, [(0, .inr (.inr (some 82))), (1, .inl 0)], [.inl 1, .inr (.inr (some 82))], (I36, L2, R, Y), 0, 0) (fun _ => rfl) ?_
        refine yi_D_callv rfl (q_wrong_z (by omega) hW4 f38 A39) ?_
        rintro _ ⟨I46, rfl, fI47, e48⟩
        have p49 := mt_f_ne hW4 A39.2 (w := 1) (by omega)
        have hr6 := ra_8 hr5 fI47
        show yi_D zi_Ms d zi_m93 k (73, [(0, .inr (.inr (some 82))), (1, .inl 0)], [], (I46, L2, R, Y), 0, 0) _
        refine yi_D_run 1 (76, [(0, .inr (.inr (some 82))), (1, .inl 0)], [.inl 1100], (I46, L2, R, Y), 0, 0) (fun _ => rfl) ?_
        refine yi_D_reti rfl ?_
        exact ⟨_, _, _, rfl, e48, Int.le_of_lt p49, sp_R_s sp19 (by rw [sp_s7, if_neg (by omega), if_pos (fun z => (by assumption : ¬ _) (hme.2 z))]), hr6, hfl1, fun z => absurd z (by have := p49; omega)⟩
    · have hW4 := mt_W_t hW3 (mt_G_F G42)
      have p44 := mt_f_ne hW3 hA34.2 (w := 1) (by omega)
      have hr5 := ra_f hr4 (mt_G_F G42)
      show yi_D zi_Ms d zi_m93 k (49, [(0, .inr (.inr (some 82))), (1, .inl 0)], [], (I41, L2, R, Y), 0, 0) _
      refine yi_D_run 1 (50, [(0, .inr (.inr (some 82))), (1, .inl 0)], [.inr (.inr (some 82))], (I41, L2, R, Y), 0, 0) (fun _ => rfl) ?_
      refine yi_D_gi (v := sp_f (tk_Ps s n) a16 1) rfl rfl rfl f43 (fun _ => ?_)
      have h50 : ¬ ((sp_f (tk_Ps s n) a16 1) = 0) := by omega
      refine yi_D_if1 true rfl (yi_ne_t h50) ?_
      refine yi_D_run 1 (76, [(0, .inr (.inr (some 82))), (1, .inl 0)], [.inl 1100], (I41, L2, R, Y), 0, 0) (fun _ => rfl) ?_
      refine yi_D_reti rfl ?_
      exact ⟨_, _, _, rfl, f43, Int.le_of_lt p44, sp_R_s sp19 (by rw [sp_s7, if_pos (by assumption)]), hr5, hfl1, fun z => absurd z (by have := p44; omega)⟩
  · have hW2 := mt_W_t hW3 F26
    have hr2 := ra_f hr3 F26
    show yi_D zi_Ms d zi_m93 k (37, [(0, .inr (.inr (some 82))), (1, .inl 0)], [], (I24, L2, R, Y), 0, 0) _
    refine yi_D_run 3 (40, [(0, .inr (.inr (some 82))), (1, .inl 0)], [.inl 0, .inl 0, .inr (.inr (some 82))], (I24, L2, R, Y), 0, 0) (fun _ => rfl) ?_
    refine yi_D_callv rfl (q_emit hW2) ?_
    rintro _ ⟨I51, rfl, E52⟩
    have hW3 := mt_W_t hW2 (mt_E_F E52)
    have hr4 := ra_f hr2 (mt_E_F E52)
    have h853 : I51 82 8 = g25 := (E52.1 82 8 (by omega)).trans f29
    show yi_D zi_Ms d zi_m93 k (43, [(0, .inr (.inr (some 82))), (1, .inl 0)], [], (I51, L2, R, Y), 0, 0) _
    refine yi_D_run 2 (46, [(0, .inr (.inr (some 82))), (1, .inl 0)], [.inl 59, .inr (.inr (some 82))], (I51, L2, R, Y), 0, 0) (fun _ => rfl) ?_
    refine yi_D_callv rfl (q_takeSign_f hW3 (by rw [h853]; exact n28)) ?_
    rintro _ rfl
    show yi_D zi_Ms d zi_m93 k (49, [(0, .inr (.inr (some 82))), (1, .inl 0)], [], (I51, L2, R, Y), 0, 0) _
    refine yi_D_run 1 (50, [(0, .inr (.inr (some 82))), (1, .inl 0)], [.inr (.inr (some 82))], (I51, L2, R, Y), 0, 0) (fun _ => rfl) ?_
    refine yi_D_gi (v := g25) rfl rfl rfl h853 (fun _ => ?_)
    have h54 : ¬ (g25 = 0) := by omega
    refine yi_D_if1 true rfl (yi_ne_t h54) ?_
    refine yi_D_run 1 (76, [(0, .inr (.inr (some 82))), (1, .inl 0)], [.inl 1100], (I51, L2, R, Y), 0, 0) (fun _ => rfl) ?_
    refine yi_D_reti rfl ?_
    exact ⟨_, _, _, rfl, h853, Int.le_of_lt n28, sp27, hr4, hfl1, fun z => absurd z (by have := n28; omega)⟩
theorem q_readTellC {d : Nat} {I L : Nat → Nat → Int} {R : Nat → Nat → Option Nat} {Y : (Nat → Nat) × (Nat → Nat) × Nat} (hS : ym_S (R, Y)) {s : Nat → Int} {n : Nat} {ld : Nat → Int} {nm : Int → Int} (hn : n ≤ 1000) (h2 : I 82 2 = (n : Int)) (ht : ∀ i, i < n → I 83 i = s i) (hWd : ∀ w : Nat, w < 32 → L 87 w = sp_W37.getD w 0) (hlm : lm_R ld nm I L) : yi_P zi_Ms d 93 [.inr (.inr (some 82)), .inl 1] (I, L, R, Y) (fun r => ∃ I' L' f, r = (some (.inl 1100), (I', L', R, Y), 0, 0) ∧ I' 82 8 = f ∧ 0 ≤ f ∧ sy_F (tk_Ks s n) (tk_Ps s n) (tk_Vs s n) ld nm f ∧ ra_I I I' ∧ (∀ p k, p ≠ 86 → L' p k = L p k) ∧ (f = 0 → ∃ a cs, (sp_R (tk_Ks s n) (tk_Ps s n) (tk_Vs s n) (3, 1, 0, [10, 22], ld, nm, []) (.inl (7, a, 0, [22], ld, nm, cs)) ∧ tk_Ks s n a = 59 ∧ tk_Ks s n (a + 1) = 0) ∧ ((tk_Ks s n 0 = 3 ∧ (8 ≤ nm (tk_Vs s n 0) ∧ nm (tk_Vs s n 0) ≤ 12)) ∧ I' 82 33 = nm (tk_Vs s n 0) - 8) ∧ mc_S (fun k => (I 89 k, I 90 k)) I' (cs ++ [(0, 0)]) ∧ wfN 13 cs ∧ (∀ x ∈ cs, pF x) ∧ cs.length ≤ 1000)) := by
  refine yi_P_of (M := zi_m93) rfl (fun d k => ?_)
  show yi_D zi_Ms d zi_m93 k (0, [(0, .inr (.inr (some 82))), (1, .inl 1)], [], (I, L, R, Y), 0, 0) _
  refine yi_D_run 1 (1, [(0, .inr (.inr (some 82))), (1, .inl 1)], [.inr (.inr (some 82))], (I, L, R, Y), 0, 0) (fun _ => rfl) ?_
  refine yi_D_callv rfl (q_cutAll hS hn h2 ht hWd) ?_
  rintro _ ⟨I1, L2, rfl, hT3, e74, e85, e26, fI7, fL8⟩
  have hl1 : lm_R ld nm I1 L2 := lm_R_t hlm (fun k _ => fI7 88 k (by omega)) (fun k => fI7 93 k (by omega)) (fun k => fL8 91 k (by omega)) (fI7 82 18 (by omega))
  have hr1 : ra_I I I1 := fun p k e => fI7 p k (by omega)
  have hfl1 := fL8
  show yi_D zi_Ms d zi_m93 k (4, [(0, .inr (.inr (some 82))), (1, .inl 1)], [], (I1, L2, R, Y), 0, 0) _
  refine yi_D_run 2 (6, [(0, .inr (.inr (some 82))), (1, .inl 1)], [.inl 0, .inr (.inr (some 82))], (I1, L2, R, Y), 0, 0) (fun _ => rfl) ?_
  refine yi_D_pi rfl (fun _ => ?_)
  generalize w10 : yi_u I1 82 20 0 = I9
  refine yi_D_run 2 (11, [(0, .inr (.inr (some 82))), (1, .inl 1)], [.inl 0, .inr (.inr (some 82))], (I9, L2, R, Y), 0, 0) (fun _ => rfl) ?_
  refine yi_D_pi rfl (fun _ => ?_)
  generalize w12 : yi_u I9 82 13 0 = I11
  refine yi_D_run 2 (16, [(0, .inr (.inr (some 82))), (1, .inl 1)], [.inl 1, .inr (.inr (some 82))], (I11, L2, R, Y), 0, 0) (fun _ => rfl) ?_
  refine yi_D_if1 false rfl (by decide) ?_
  refine yi_D_run 3 (22, [(0, .inr (.inr (some 82))), (1, .inl 1)], [.inl (-1), .inl 2, .inr (.inr (some 82)), .inr (.inr (some 82))], (I11, L2, R, Y), 0, 0) (fun _ => rfl) ?_
  have f2 : ∀ p k, ¬ (p = 82 ∧ (k = 20 ∨ k = 13)) → I11 p k = I1 p k := fun p k h => by rw [← w12, yi_u_ne _ _ (by omega), ← w10, yi_u_ne _ _ (by omega)]
  have e20 : I11 82 20 = 0 := by rw [← w12, yi_u_ne _ _ (by omega), ← w10, yi_u_eq]
  have e13 : I11 82 13 = 0 := by rw [← w12, yi_u_eq]
  have hl2 : lm_R ld nm I11 L2 := lm_R_t hl1 (fun k _ => f2 88 k (by omega)) (fun k => f2 93 k (by omega)) (fun _ => rfl) (f2 82 18 (by omega))
  have hW : mt_W I11 L2 R Y (tk_Ks s n) (tk_Ps s n) (tk_Vs s n) (tk_te s n) 0 ld nm := ⟨hS, mt_T_t hT3 (fun k => f2 84 k (by omega)) (fun k => f2 85 k (by omega)), ⟨e20, Or.inr ⟨rfl, hl2.2.2.2.2⟩⟩, fun j hj => (by rw [Nat.zero_add]; exact hl2.1 j hj), hl2.2.1, fun j h1 h2 => (by rw [Nat.zero_add]; exact hl2.2.2.1 j h1 h2), hl2.2.2.2.1, by omega⟩
  have hf0 : I11 82 8 = 0 := (f2 82 8 (by omega)).trans e85
  have hA0 : mt_A I11 (tk_te s n) 0 := ⟨(f2 82 7 (by omega)).trans e74, by omega⟩
  refine yi_D_callv rfl (q_told2S hW hf0 hA0) ?_
  rintro _ (⟨I13, rfl, k14, G15, f16, A17⟩ | ⟨z18, I19, g20, rfl, G21, f22, p23, sy24⟩)
  · show yi_D zi_Ms d zi_m93 k (25, [(0, .inr (.inr (some 82))), (1, .inl 1)], [.inl (nm (tk_Vs s n 0) - 8), .inr (.inr (some 82))], (I13, L2, R, Y), 0, 0) _
    refine yi_D_run 1 (29, [(0, .inr (.inr (some 82))), (1, .inl 1)], [.inl (nm (tk_Vs s n 0) - 8), .inr (.inr (some 82))], (I13, L2, R, Y), 0, 0) (fun _ => rfl) ?_
    refine yi_D_pi rfl (fun _ => ?_)
    generalize w26 : yi_u I13 82 33 (nm (tk_Vs s n 0) - 8) = I25
    refine yi_D_run 2 (34, [(0, .inr (.inr (some 82))), (1, .inl 1)], [.inl 0, .inr (.inr (some 82))], (I25, L2, R, Y), 0, 0) (fun _ => rfl) ?_
    have fJ : ∀ p k, ¬ (p = 82 ∧ k = 33) → I25 p k = I13 p k := fun p k h => by rw [← w26, yi_u_ne _ _ (by omega)]
    have f3 : ∀ p k, ¬ (p = 82 ∧ (k = 7 ∨ k = 8 ∨ k = 20 ∨ k = 13 ∨ k = 33)) → I25 p k = I1 p k := fun p k h => (fJ p k (by omega)).trans ((G15 p k (by omega)).trans (f2 p k (by omega)))
    replace e20 : I25 82 20 = 0 := (fJ 82 20 (by omega)).trans ((G15 82 20 (by omega)).trans e20)
    replace e13 : I25 82 13 = 0 := (fJ 82 13 (by omega)).trans ((G15 82 13 (by omega)).trans e13)
    replace hf0 : I25 82 8 = 0 := (fJ 82 8 (by omega)).trans f16
    replace hA0 : mt_A I25 (tk_te s n) 1 := ⟨(fJ 82 7 (by omega)).trans A17.1, A17.2⟩
    have e33 : I25 82 33 = nm (tk_Vs s n 0) - 8 := by rw [← w26, yi_u_eq]
    have hl3 : lm_R ld nm I25 L2 := lm_R_t hl1 (fun k _ => f3 88 k (by omega)) (fun k => f3 93 k (by omega)) (fun _ => rfl) (f3 82 18 (by omega))
    have hW3 : mt_W I25 L2 R Y (tk_Ks s n) (tk_Ps s n) (tk_Vs s n) (tk_te s n) 0 ld nm := ⟨hS, mt_T_t hT3 (fun k => f3 84 k (by omega)) (fun k => f3 85 k (by omega)), ⟨e20, Or.inr ⟨rfl, hl3.2.2.2.2⟩⟩, fun j hj => (by rw [Nat.zero_add]; exact hl3.1 j hj), hl3.2.1, fun j h1 h2 => (by rw [Nat.zero_add]; exact hl3.2.2.1 j h1 h2), hl3.2.2.2.1, by omega⟩
    have hr3 : ra_I I I25 := fun p k e => (f3 p k (by omega)).trans (hr1 p k e)
    have hm3 : mc_S (fun k => (I 89 k, I 90 k)) I25 [] := ⟨e13, fun k hk => absurd hk (Nat.not_lt_zero k), fun k hk => ⟨hr3 89 k (by omega), hr3 90 k (by omega)⟩⟩
    refine yi_D_callv rfl (q_rfC hW3 hf0 hA0 hm3) ?_
    rintro _ (⟨I27, a28, cs29, rfl, F30, sp31, f32, A33, m34, w35⟩ | ⟨I36, g37, rfl, F38, sp39, n40, f41⟩)
    · have hW2 := mt_W_t hW3 F30
      have hr2 := ra_f hr3 F30
      have e332 := (F30.1 82 33 (by omega)).trans e33
      show yi_D zi_Ms d zi_m93 k (37, [(0, .inr (.inr (some 82))), (1, .inl 1)], [], (I27, L2, R, Y), 0, 0) _
      refine yi_D_run 3 (40, [(0, .inr (.inr (some 82))), (1, .inl 1)], [.inl 0, .inl 0, .inr (.inr (some 82))], (I27, L2, R, Y), 0, 0) (fun _ => rfl) ?_
      refine yi_D_callv rfl (q_emitC hW2 m34) ?_
      rintro _ ⟨I42, rfl, E43, hm44⟩
      have hW3 := mt_W_t hW2 (mt_E_F E43)
      have hr4 := ra_f hr2 (mt_E_F E43)
      have h845 : I42 82 8 = 0 := (E43.1 82 8 (by omega)).trans f32
      have hA46 : mt_A I42 (tk_te s n) a28 := ⟨(E43.1 82 7 (by omega)).trans A33.1, A33.2⟩
      have e334 := (E43.1 82 33 (by omega)).trans e332
      show yi_D zi_Ms d zi_m93 k (43, [(0, .inr (.inr (some 82))), (1, .inl 1)], [], (I42, L2, R, Y), 0, 0) _
      refine yi_D_run 2 (46, [(0, .inr (.inr (some 82))), (1, .inl 1)], [.inl 59, .inr (.inr (some 82))], (I42, L2, R, Y), 0, 0) (fun _ => rfl) ?_
      refine yi_D_callv rfl (q_takeSign_z (by omega) hW3 h845 hA46) ?_
      rintro _ (⟨k47, I48, rfl, G49, f50, A51⟩ | ⟨k52, I53, rfl, G54, f55⟩)
      · have hW4 := mt_W_t hW3 (mt_G_F G49)
        have hme := mt_end hW4.2.1 A51.2
        have hr5 := ra_f hr4 (mt_G_F G49)
        have hm5 := mc_G hm44 G49
        have e335 := (G49 82 33 (by omega)).trans e334
        show yi_D zi_Ms d zi_m93 k (49, [(0, .inr (.inr (some 82))), (1, .inl 1)], [], (I48, L2, R, Y), 0, 0) _
        refine yi_D_run 1 (50, [(0, .inr (.inr (some 82))), (1, .inl 1)], [.inr (.inr (some 82))], (I48, L2, R, Y), 0, 0) (fun _ => rfl) ?_
        refine yi_D_gi (v := 0) rfl rfl rfl f50 (fun _ => ?_)
        refine yi_D_if1 false rfl (by decide) ?_
        refine yi_D_run 1 (57, [(0, .inr (.inr (some 82))), (1, .inl 1)], [.inr (.inr (some 82))], (I48, L2, R, Y), 0, 0) (fun _ => rfl) ?_
        refine yi_D_gr (v := some 84) rfl rfl rfl (ym_S_at hS (j := 1) rfl).1 (fun _ => ?_)
        refine yi_D_run 1 (61, [(0, .inr (.inr (some 82))), (1, .inl 1)], [.inr (.inr (some 82)), .inr (.inr (some 84))], (I48, L2, R, Y), 0, 0) (fun _ => rfl) ?_
        refine yi_D_gi (v := ((a28 + 1 : Nat) : Int)) rfl rfl rfl A51.1 (fun _ => ?_)
        have h84 : I48 84 (((a28 + 1 : Nat) : Int).toNat) = I48 84 (a28 + 1) := congrArg (I48 84) (by omega)
        refine yi_D_il (v := I48 84 (a28 + 1)) rfl rfl h84 (fun _ _ => ?_)
        by_cases h57 : (I48 84 (a28 + 1)) = 0
        · refine yi_D_if1 true rfl (yi_eq_t h57) ?_
          refine yi_D_run 1 (76, [(0, .inr (.inr (some 82))), (1, .inl 1)], [.inl 1100], (I48, L2, R, Y), 0, 0) (fun _ => rfl) ?_
          refine yi_D_reti rfl ?_
          have hlen : (cs29).length ≤ 1000 := by
            have z := ln_0 (sp_ln_R (ln_mkF (by omega) (by decide)) (fun z => absurd z (by show ¬ 8 ≤ 3; omega)) sp31)
            have y := A51.2
            have x := hW4.2.1.1
            omega
          exact ⟨_, _, _, rfl, f50, Int.le_refl 0, (Or.inr (Or.inr ⟨k14.1, k14.2, sp_R_s sp31 (by rw [sp_s7, if_neg (by omega), if_neg (fun z => z (hme.1 (by assumption)))])⟩)), hr5, hfl1, fun _ => ⟨_, _, ⟨sp31, k47, hme.1 (by assumption)⟩, ⟨k14, e335⟩, hm5, w35.1, w35.2, hlen⟩⟩
        · refine yi_D_if1 false rfl (yi_eq_f h57) ?_
          refine yi_D_run 2 (70, [(0, .inr (.inr (some 82))), (1, .inl 1)], [.inl 1, .inr (.inr (some 82))], (I48, L2, R, Y), 0, 0) (fun _ => rfl) ?_
          refine yi_D_callv rfl (q_wrong_z (by omega) hW4 f50 A51) ?_
          rintro _ ⟨I58, rfl, fI59, e60⟩
          have p61 := mt_f_ne hW4 A51.2 (w := 1) (by omega)
          have hr6 := ra_8 hr5 fI59
          show yi_D zi_Ms d zi_m93 k (73, [(0, .inr (.inr (some 82))), (1, .inl 1)], [], (I58, L2, R, Y), 0, 0) _
          refine yi_D_run 1 (76, [(0, .inr (.inr (some 82))), (1, .inl 1)], [.inl 1100], (I58, L2, R, Y), 0, 0) (fun _ => rfl) ?_
          refine yi_D_reti rfl ?_
          exact ⟨_, _, _, rfl, e60, Int.le_of_lt p61, (Or.inr (Or.inr ⟨k14.1, k14.2, sp_R_s sp31 (by rw [sp_s7, if_neg (by omega), if_pos (fun z => (by assumption : ¬ _) (hme.2 z))])⟩)), hr6, hfl1, fun z => absurd z (by have := p61; omega)⟩
      · have hW4 := mt_W_t hW3 (mt_G_F G54)
        have p56 := mt_f_ne hW3 hA46.2 (w := 1) (by omega)
        have hr5 := ra_f hr4 (mt_G_F G54)
        show yi_D zi_Ms d zi_m93 k (49, [(0, .inr (.inr (some 82))), (1, .inl 1)], [], (I53, L2, R, Y), 0, 0) _
        refine yi_D_run 1 (50, [(0, .inr (.inr (some 82))), (1, .inl 1)], [.inr (.inr (some 82))], (I53, L2, R, Y), 0, 0) (fun _ => rfl) ?_
        refine yi_D_gi (v := sp_f (tk_Ps s n) a28 1) rfl rfl rfl f55 (fun _ => ?_)
        have h62 : ¬ ((sp_f (tk_Ps s n) a28 1) = 0) := by omega
        refine yi_D_if1 true rfl (yi_ne_t h62) ?_
        refine yi_D_run 1 (76, [(0, .inr (.inr (some 82))), (1, .inl 1)], [.inl 1100], (I53, L2, R, Y), 0, 0) (fun _ => rfl) ?_
        refine yi_D_reti rfl ?_
        exact ⟨_, _, _, rfl, f55, Int.le_of_lt p56, (Or.inr (Or.inr ⟨k14.1, k14.2, sp_R_s sp31 (by rw [sp_s7, if_pos (by assumption)])⟩)), hr5, hfl1, fun z => absurd z (by have := p56; omega)⟩
    · have hW2 := mt_W_t hW3 F38
      have hr2 := ra_f hr3 F38
      show yi_D zi_Ms d zi_m93 k (37, [(0, .inr (.inr (some 82))), (1, .inl 1)], [], (I36, L2, R, Y), 0, 0) _
      refine yi_D_run 3 (40, [(0, .inr (.inr (some 82))), (1, .inl 1)], [.inl 0, .inl 0, .inr (.inr (some 82))], (I36, L2, R, Y), 0, 0) (fun _ => rfl) ?_
      refine yi_D_callv rfl (q_emit hW2) ?_
      rintro _ ⟨I63, rfl, E64⟩
      have hW3 := mt_W_t hW2 (mt_E_F E64)
      have hr4 := ra_f hr2 (mt_E_F E64)
      have h865 : I63 82 8 = g37 := (E64.1 82 8 (by omega)).trans f41
      show yi_D zi_Ms d zi_m93 k (43, [(0, .inr (.inr (some 82))), (1, .inl 1)], [], (I63, L2, R, Y), 0, 0) _
      refine yi_D_run 2 (46, [(0, .inr (.inr (some 82))), (1, .inl 1)], [.inl 59, .inr (.inr (some 82))], (I63, L2, R, Y), 0, 0) (fun _ => rfl) ?_
      refine yi_D_callv rfl (q_takeSign_f hW3 (by rw [h865]; exact n40)) ?_
      rintro _ rfl
      show yi_D zi_Ms d zi_m93 k (49, [(0, .inr (.inr (some 82))), (1, .inl 1)], [], (I63, L2, R, Y), 0, 0) _
      refine yi_D_run 1 (50, [(0, .inr (.inr (some 82))), (1, .inl 1)], [.inr (.inr (some 82))], (I63, L2, R, Y), 0, 0) (fun _ => rfl) ?_
      refine yi_D_gi (v := g37) rfl rfl rfl h865 (fun _ => ?_)
      have h66 : ¬ (g37 = 0) := by omega
      refine yi_D_if1 true rfl (yi_ne_t h66) ?_
      refine yi_D_run 1 (76, [(0, .inr (.inr (some 82))), (1, .inl 1)], [.inl 1100], (I63, L2, R, Y), 0, 0) (fun _ => rfl) ?_
      refine yi_D_reti rfl ?_
      exact ⟨_, _, _, rfl, h865, Int.le_of_lt n40, (Or.inr (Or.inr ⟨k14.1, k14.2, sp39⟩)), hr4, hfl1, fun z => absurd z (by have := n40; omega)⟩
  · show yi_D zi_Ms d zi_m93 k (25, [(0, .inr (.inr (some 82))), (1, .inl 1)], [.inl z18, .inr (.inr (some 82))], (I19, L2, R, Y), 0, 0) _
    refine yi_D_run 1 (29, [(0, .inr (.inr (some 82))), (1, .inl 1)], [.inl z18, .inr (.inr (some 82))], (I19, L2, R, Y), 0, 0) (fun _ => rfl) ?_
    refine yi_D_pi rfl (fun _ => ?_)
    generalize w68 : yi_u I19 82 33 z18 = I67
    refine yi_D_run 2 (34, [(0, .inr (.inr (some 82))), (1, .inl 1)], [.inl 0, .inr (.inr (some 82))], (I67, L2, R, Y), 0, 0) (fun _ => rfl) ?_
    have fJ : ∀ p k, ¬ (p = 82 ∧ k = 33) → I67 p k = I19 p k := fun p k h => by rw [← w68, yi_u_ne _ _ (by omega)]
    have f3 : ∀ p k, ¬ (p = 82 ∧ (k = 7 ∨ k = 8 ∨ k = 20 ∨ k = 13 ∨ k = 33)) → I67 p k = I1 p k := fun p k h => (fJ p k (by omega)).trans ((G21 p k (by omega)).trans (f2 p k (by omega)))
    replace e20 : I67 82 20 = 0 := (fJ 82 20 (by omega)).trans ((G21 82 20 (by omega)).trans e20)
    replace e13 : I67 82 13 = 0 := (fJ 82 13 (by omega)).trans ((G21 82 13 (by omega)).trans e13)
    have hfp : 0 < I67 82 8 := by rw [fJ 82 8 (by omega), f22]; exact p23
    have hl3 : lm_R ld nm I67 L2 := lm_R_t hl1 (fun k _ => f3 88 k (by omega)) (fun k => f3 93 k (by omega)) (fun _ => rfl) (f3 82 18 (by omega))
    have hW3 : mt_W I67 L2 R Y (tk_Ks s n) (tk_Ps s n) (tk_Vs s n) (tk_te s n) 0 ld nm := ⟨hS, mt_T_t hT3 (fun k => f3 84 k (by omega)) (fun k => f3 85 k (by omega)), ⟨e20, Or.inr ⟨rfl, hl3.2.2.2.2⟩⟩, fun j hj => (by rw [Nat.zero_add]; exact hl3.1 j hj), hl3.2.1, fun j h1 h2 => (by rw [Nat.zero_add]; exact hl3.2.2.1 j h1 h2), hl3.2.2.2.1, by omega⟩
    have hr3 : ra_I I I67 := fun p k e => (f3 p k (by omega)).trans (hr1 p k e)
    have hm3 : mc_S (fun k => (I 89 k, I 90 k)) I67 [] := ⟨e13, fun k hk => absurd hk (Nat.not_lt_zero k), fun k hk => ⟨hr3 89 k (by omega), hr3 90 k (by omega)⟩⟩
    refine yi_D_callv rfl (q_readFormula_f hW3 hfp) ?_
    rintro _ ⟨I69, rfl, G70, e71⟩
    have hW2 := mt_W_t hW3 (mt_G_F G70)
    have hr2 := ra_f hr3 (mt_G_F G70)
    have f72 : I69 82 8 = g20 := (e71).trans ((fJ 82 8 (by omega)).trans f22)
    show yi_D zi_Ms d zi_m93 k (37, [(0, .inr (.inr (some 82))), (1, .inl 1)], [], (I69, L2, R, Y), 0, 0) _
    refine yi_D_run 3 (40, [(0, .inr (.inr (some 82))), (1, .inl 1)], [.inl 0, .inl 0, .inr (.inr (some 82))], (I69, L2, R, Y), 0, 0) (fun _ => rfl) ?_
    refine yi_D_callv rfl (q_emit hW2) ?_
    rintro _ ⟨I73, rfl, E74⟩
    have hW3 := mt_W_t hW2 (mt_E_F E74)
    have hr4 := ra_f hr2 (mt_E_F E74)
    have h875 : I73 82 8 = g20 := (E74.1 82 8 (by omega)).trans f72
    show yi_D zi_Ms d zi_m93 k (43, [(0, .inr (.inr (some 82))), (1, .inl 1)], [], (I73, L2, R, Y), 0, 0) _
    refine yi_D_run 2 (46, [(0, .inr (.inr (some 82))), (1, .inl 1)], [.inl 59, .inr (.inr (some 82))], (I73, L2, R, Y), 0, 0) (fun _ => rfl) ?_
    refine yi_D_callv rfl (q_takeSign_f hW3 (by rw [h875]; exact p23)) ?_
    rintro _ rfl
    show yi_D zi_Ms d zi_m93 k (49, [(0, .inr (.inr (some 82))), (1, .inl 1)], [], (I73, L2, R, Y), 0, 0) _
    refine yi_D_run 1 (50, [(0, .inr (.inr (some 82))), (1, .inl 1)], [.inr (.inr (some 82))], (I73, L2, R, Y), 0, 0) (fun _ => rfl) ?_
    refine yi_D_gi (v := g20) rfl rfl rfl h875 (fun _ => ?_)
    have h76 : ¬ (g20 = 0) := by omega
    refine yi_D_if1 true rfl (yi_ne_t h76) ?_
    refine yi_D_run 1 (76, [(0, .inr (.inr (some 82))), (1, .inl 1)], [.inl 1100], (I73, L2, R, Y), 0, 0) (fun _ => rfl) ?_
    refine yi_D_reti rfl ?_
    exact ⟨_, _, _, rfl, h875, Int.le_of_lt p23, sy24, hr4, hfl1, fun z => absurd z (by have := p23; omega)⟩
