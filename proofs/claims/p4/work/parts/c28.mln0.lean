/-! The check reader: lines of a land. -/
theorem mt_N_add {I L I' L' : Nat → Nat → Int} {nm : Int → Int} {m v c : Int} (h : mt_N I L 92 94 m nm) (e1 : L' 92 m.toNat = v) (e2 : I' 94 m.toNat = c) (f1 : ∀ k, k ≠ m.toNat → L' 92 k = L 92 k) (f2 : ∀ k, k ≠ m.toNat → I' 94 k = I 94 k) (hv : nm v < 0) (hc : 0 ≤ c ∧ c ≤ 12) (hm : m + 1 ≤ 13) : mt_N I' L' 92 94 (m + 1) (sp_un nm v c) := by
  obtain ⟨h0, h1, h2⟩ := h
  refine ⟨by omega, fun k hk => ?_, fun w hw => ?_⟩
  · by_cases z : (k : Int) = m
    · rw [show k = m.toNat by omega, e1, e2]
      exact ⟨if_pos rfl, hc⟩
    · rw [f1 k (by omega), f2 k (by omega)]
      have q := h1 k (by omega)
      refine ⟨?_, q.2⟩
      show (if L 92 k = v then c else nm (L 92 k)) = _
      rw [if_neg]
      · exact q.1
      · intro e
        rw [e] at q
        omega
  · show (if w = v then c else nm w) = -1
    rw [if_neg]
    · exact h2 w (fun k hk => by rw [← f1 k (by omega)]; exact hw k (by omega))
    · intro e
      exact hw m.toNat (by omega) (e1.trans e.symm)
section MTL
variable {I L I' L' : Nat → Nat → Int} {R : Nat → Nat → Option Nat} {Y : (Nat → Nat) × (Nat → Nat) × Nat} {K P V : Nat → Int} {te a i : Nat} {ld : Nat → Int} {nm : Int → Int} {v c m : Int}
theorem mt_W_name (h : mt_W I L R Y K P V te 50 ld nm) (em : I 82 19 = m) (e1 : L' 92 m.toNat = v) (e2 : I' 94 m.toNat = c) (e3 : I' 82 19 = m + 1) (fL : ∀ p k, ¬ (p = 92 ∧ k = m.toNat) → L' p k = L p k) (fI : ∀ p k, ¬ (p = 94 ∧ k = m.toNat) ∧ ¬ (p = 82 ∧ (k = 19 ∨ k = 7 ∨ k = 8)) → I' p k = I p k) (hv : nm v < 0) (hc : 0 ≤ c ∧ c ≤ 12) (hm : m + 1 ≤ 13) : mt_W I' L' R Y K P V te 50 ld (sp_un nm v c) := by
  obtain ⟨hS, ⟨t1, t2, t3⟩, ⟨h1, h2⟩, h3, h4, h5, h6, h7⟩ := h
  refine ⟨hS, ⟨t1, fun j hj => ?_, fun w hw => ?_⟩, ⟨?_, ?_⟩, fun j hj => ?_, ?_, fun j x y => ?_, h6, ?_⟩
  · rw [fI 84 j (by omega), fI 85 j (by omega), fL 86 j (by omega)]
    exact t2 j hj
  · rw [fL 87 w (by omega)]
    exact t3 w hw
  · rw [fI 82 20 (by omega)]
    exact h1
  · rcases h2 with ⟨_, hn⟩ | ⟨z, _⟩
    · left
      rw [em] at hn
      rw [e3]
      exact ⟨rfl, mt_N_add hn e1 e2 (fun k hk => fL 92 k (by omega)) (fun k hk => fI 94 k (by omega)) hv hc hm⟩
    · exact absurd z (by decide)
  · rw [fI 88 _ (by omega)]
    exact h3 j hj
  · rw [fI 88 _ (by omega)]
    exact h4
  · rw [fI 88 _ (by omega)]
    exact h5 j x y
  · rw [fI 82 13 (by omega)]
    exact h7
/-- a cell of the land is written -/
theorem mt_W_w (w : Int) (h : mt_W I L R Y K P V te 50 ld nm) (e : i < 21 → I' 88 (50 + i) = w) (f : ∀ p k, ¬ (p = 88 ∧ k = 50 + i) → I' p k = I p k) (hb : ((0 ≤ (sp_up ld i w) 0 ∧ (sp_up ld i w) 0 ≤ 6) ∧ (0 ≤ (sp_up ld i w) 1 ∧ (sp_up ld i w) 1 ≤ 4) ∧ (0 ≤ (sp_up ld i w) 2 ∧ (sp_up ld i w) 2 ≤ 4) ∧ (0 ≤ (sp_up ld i w) 3 ∧ (sp_up ld i w) 3 ≤ 5) ∧ (0 ≤ (sp_up ld i w) 4 ∧ (sp_up ld i w) 4 ≤ 4) ∧ (0 ≤ (sp_up ld i w) 5 ∧ (sp_up ld i w) 5 ≤ 6))) : mt_W I' L R Y K P V te 50 (sp_up ld i w) nm := by
  obtain ⟨hS, hT, ⟨h1, h2⟩, h3, h4, h5, _, h7⟩ := h
  have key : ∀ j, j < 21 → I 88 (50 + j) = ld j → I' 88 (50 + j) = sp_up ld i w j := by
    intro j hj q
    by_cases z : j = i
    · subst z
      rw [sp_up_e]
      exact e hj
    · rw [sp_up_n _ _ z, f _ _ (by omega)]
      exact q
  refine ⟨hS, mt_T_t hT (fun k => f 84 k (by omega)) (fun k => f 85 k (by omega)), ⟨by rw [f 82 20 (by omega)]; exact h1, ?_⟩, fun j hj => key j (by omega) (h3 j hj), ?_, fun j x y => key j y (h5 j x y), hb, by rw [f 82 13 (by omega)]; exact h7⟩
  · rw [f 82 19 (by omega), f 82 18 (by omega)]
    exact h2.imp (fun z => ⟨z.1, mt_N_t z.2 (fun k _ => f 94 k (by omega)) (fun _ _ => rfl)⟩) (fun z => ⟨z.1, mt_N_t z.2 (fun k _ => f 93 k (by omega)) (fun _ _ => rfl)⟩)
  · by_cases z : i = 6
    · subst z
      rw [sp_up_e, e (by omega)]
      exact fun y => y
    · rw [sp_up_n _ _ (fun q => z q.symm), f _ _ (by omega)]
      exact h4
theorem mt_bd (h : mt_W I L R Y K P V te 50 ld nm) (hi : 6 ≤ i) (w : Int) : ((0 ≤ (sp_up ld i w) 0 ∧ (sp_up ld i w) 0 ≤ 6) ∧ (0 ≤ (sp_up ld i w) 1 ∧ (sp_up ld i w) 1 ≤ 4) ∧ (0 ≤ (sp_up ld i w) 2 ∧ (sp_up ld i w) 2 ≤ 4) ∧ (0 ≤ (sp_up ld i w) 3 ∧ (sp_up ld i w) 3 ≤ 5) ∧ (0 ≤ (sp_up ld i w) 4 ∧ (sp_up ld i w) 4 ≤ 4) ∧ (0 ≤ (sp_up ld i w) 5 ∧ (sp_up ld i w) 5 ≤ 6)) := by
  rw [sp_up_n _ _ (by omega), sp_up_n _ _ (by omega), sp_up_n _ _ (by omega), sp_up_n _ _ (by omega), sp_up_n _ _ (by omega), sp_up_n _ _ (by omega)]
  exact h.2.2.2.2.2.2.1
theorem mt_W_6 (h : mt_W I L R Y K P V te 50 ld nm) (e : 0 ≤ I' 88 56) (f : ∀ p k, ¬ (p = 88 ∧ k = 56) → I' p k = I p k) : mt_W I' L R Y K P V te 50 ld nm := by
  obtain ⟨hS, hT, ⟨h1, h2⟩, h3, h4, h5, h6, h7⟩ := h
  refine ⟨hS, mt_T_t hT (fun k => f 84 k (by omega)) (fun k => f 85 k (by omega)), ⟨by rw [f 82 20 (by omega)]; exact h1, ?_⟩, fun j hj => by rw [f 88 _ (by omega)]; exact h3 j hj, fun x => absurd (show I' 88 56 < 0 from x) (by omega), fun j x y => by rw [f 88 _ (by omega)]; exact h5 j x y, h6, by rw [f 82 13 (by omega)]; exact h7⟩
  rw [f 82 19 (by omega), f 82 18 (by omega)]
  exact h2.imp (fun z => ⟨z.1, mt_N_t z.2 (fun k _ => f 94 k (by omega)) (fun _ _ => rfl)⟩) (fun z => ⟨z.1, mt_N_t z.2 (fun k _ => f 93 k (by omega)) (fun _ _ => rfl)⟩)
theorem mt_W_6u (h : mt_W I L R Y K P V te 50 ld nm) (e : 0 ≤ I 88 56) (w : Int) : mt_W I L R Y K P V te 50 (sp_up ld 6 w) nm := by
  obtain ⟨hS, hT, h1, h3, h4, h5, h6, h7⟩ := h
  exact ⟨hS, hT, h1, fun j hj => by rw [sp_up_n _ _ (by omega)]; exact h3 j hj, fun x => absurd (show I 88 56 < 0 from x) (by omega), fun j x y => by rw [sp_up_n _ _ (by omega)]; exact h5 j x y, (by (repeat rw [sp_up_n _ _ (by omega)]); exact h6), h7⟩
end MTL
def mt_QL (I L : Nat → Nat → Int) (R : Nat → Nat → Option Nat) (Y : (Nat → Nat) × (Nat → Nat) × Nat) (K P V : Nat → Int) (te : Nat) (c : sp_C) (a : Nat) (r : yi_R) : Prop := ∃ I' L', r = (none, (I', L', R, Y), 0, 0) ∧ ((∃ a' ld' nm' cs', sp_R K P V c (.inl (1, a', 0, [], ld', nm', cs')) ∧ a < a' ∧ I' 82 8 = 0 ∧ mt_A I' te a' ∧ mt_W I' L' R Y K P V te 50 ld' nm' ∧ 1 ≤ ld' 0 ∧ (ld' 6 < 0 → I' 88 56 < 0)) ∨ (∃ f, sp_R K P V c (.inr f) ∧ 0 < f ∧ I' 82 8 = f))
theorem q_readName_z {d : Nat} {I L : Nat → Nat → Int} {R : Nat → Nat → Option Nat} {Y : (Nat → Nat) × (Nat → Nat) × Nat} {c : Int} (hc : 0 ≤ c ∧ c ≤ 12) {K P V : Nat → Int} {te a : Nat} {ld : Nat → Int} {nm : Int → Int} (hW : mt_W I L R Y K P V te 50 ld nm) (hf : I 82 8 = 0) (hA : mt_A I te a) (hk0 : ¬ K a = 0) : yi_P zi_Ms d 100 [.inr (.inr (some 82)), .inl c] (I, L, R, Y) (fun r => (K (a + 1) = 3 ∧ (¬ 0 ≤ nm (V (a + 1))) ∧ ∃ I' L', r = (none, (I', L', R, Y), 0, 0) ∧ (∀ p k, p = 88 → I' p k = I p k) ∧ I' 82 8 = 0 ∧ mt_A I' te (a + 2) ∧ mt_W I' L' R Y K P V te 50 ld (sp_un nm (V (a + 1)) c)) ∨ (¬ K (a + 1) = 3 ∧ ∃ I', r = (none, (I', L, R, Y), 0, 0) ∧ mt_G I I' ∧ I' 82 8 = sp_f P (a + 1) 1) ∨ ((K (a + 1) = 3 ∧ 0 ≤ nm (V (a + 1))) ∧ ∃ I', r = (none, (I', L, R, Y), 0, 0) ∧ mt_G I I' ∧ I' 82 8 = sp_f P (a + 1) 3)) := by
  refine yi_P_of (M := zi_m100) rfl (fun d k => ?_)
  have hS := hW.1
  have ht := hW.2.1.1
  have ha := hA.2
  have hp := hW.2.1.2.1 a hA.2
  have hl92 : Y.2.1 92 = 13 := (ym_S_at hS (j := 9) rfl).2.2
  show yi_D zi_Ms d zi_m100 k (0, [(0, .inr (.inr (some 82))), (1, .inl c)], [], (I, L, R, Y), 0, 0) _
  refine yi_D_run 2 (2, [(0, .inr (.inr (some 82))), (1, .inl c)], [.inr (.inr (some 82)), .inr (.inr (some 82))], (I, L, R, Y), 0, 0) (fun _ => rfl) ?_
  refine yi_D_gi (v := (a : Int)) rfl rfl rfl hA.1 (fun _ => ?_)
  refine yi_D_run 1 (6, [(0, .inr (.inr (some 82))), (1, .inl c)], [.inl 1, .inl (a : Int), .inr (.inr (some 82))], (I, L, R, Y), 0, 0) (fun _ => rfl) ?_
  refine yi_D_iadd rfl ((a : Int) + 1) (yi_wn (by omega) (by omega)) ?_
  refine yi_D_pi rfl (fun _ => ?_)
  generalize w2 : yi_u I 82 7 ((a : Int) + 1) = I1
  have hGn3 : mt_G I I1 := fun p k hp => by rw [← w2, yi_u_ne _ _ (by omega)]
  have hW4 := mt_W_t hW (mt_G_F hGn3)
  have hF5 := (mt_G_F hGn3)
  have hG6 := hGn3
  have hf7 : I1 82 8 = 0 := by rw [← w2, yi_u_ne _ _ (by omega)]; exact hf
  have hA8 : mt_A I1 te (a + 1) := ⟨by rw [← w2, yi_u_eq]; omega, mt_lt hW4.2.1 hA.2 (by omega)⟩
  refine yi_D_run 1 (11, [(0, .inr (.inr (some 82))), (1, .inl c)], [.inr (.inr (some 82))], (I1, L, R, Y), 0, 0) (fun _ => rfl) ?_
  refine yi_D_callv rfl (q_isName_z hW4 hf7 hA8) ?_
  rintro _ (⟨c9, rfl⟩ | ⟨c9, rfl⟩)
  · show yi_D zi_Ms d zi_m100 k (14, [(0, .inr (.inr (some 82))), (1, .inl c)], [.inl 1], (I1, L, R, Y), 0, 0) _
    refine yi_D_if1 true rfl (by decide) ?_
    refine yi_D_run 1 (26, [(0, .inr (.inr (some 82))), (1, .inl c)], [.inr (.inr (some 82))], (I1, L, R, Y), 0, 0) (fun _ => rfl) ?_
    refine yi_D_callv rfl (q_find_z hW4 hf7 hA8 (by omega)) ?_
    rintro _ rfl
    show yi_D zi_Ms d zi_m100 k (29, [(0, .inr (.inr (some 82))), (1, .inl c)], [.inl (nm (V (a + 1)))], (I1, L, R, Y), 0, 0) _
    by_cases h10 : (nm (V (a + 1))) < 0
    · refine yi_D_if1 true rfl (yi_lt_t h10) ?_
      refine yi_D_run 1 (38, [(0, .inr (.inr (some 82))), (1, .inl c)], [.inr (.inr (some 82))], (I1, L, R, Y), 0, 0) (fun _ => rfl) ?_
      refine yi_D_gi (v := 0) rfl rfl rfl hf7 (fun _ => ?_)
      refine yi_D_if1 false rfl (by decide) ?_
      refine yi_D_run 1 (45, [(0, .inr (.inr (some 82))), (1, .inl c)], [.inr (.inr (some 82))], (I1, L, R, Y), 0, 0) (fun _ => rfl) ?_
      refine yi_D_gr (v := some 92) rfl rfl rfl (ym_S_at hS (j := 9) rfl).1 (fun _ => ?_)
      refine yi_D_run 1 (49, [(0, .inr (.inr (some 82))), (1, .inl c)], [.inr (.inr (some 82)), .inr (.inr (some 92))], (I1, L, R, Y), 0, 0) (fun _ => rfl) ?_
      have r11 : I1 82 19 = I 82 19 := by rw [hGn3 82 19 (by omega)]
      refine yi_D_gi (v := I 82 19) rfl rfl rfl r11 (fun _ => ?_)
      refine yi_D_run 1 (53, [(0, .inr (.inr (some 82))), (1, .inl c)], [.inr (.inr (some 82)), .inl (I 82 19), .inr (.inr (some 92))], (I1, L, R, Y), 0, 0) (fun _ => rfl) ?_
      refine yi_D_gr (v := some 86) rfl rfl rfl (ym_S_at hS (j := 3) rfl).1 (fun _ => ?_)
      refine yi_D_run 1 (57, [(0, .inr (.inr (some 82))), (1, .inl c)], [.inr (.inr (some 82)), .inr (.inr (some 86)), .inl (I 82 19), .inr (.inr (some 92))], (I1, L, R, Y), 0, 0) (fun _ => rfl) ?_
      refine yi_D_gi (v := ((a + 1 : Nat) : Int)) rfl rfl rfl hA8.1 (fun _ => ?_)
      refine yi_D_ll (v := L 86 (((a + 1 : Nat) : Int).toNat)) rfl rfl rfl (fun b12 b13 => ?_)
      have hv3 : L 86 (((a + 1 : Nat) : Int).toNat) = V (a + 1) := (hW4.2.1.2.1 (a + 1) hA8.2).2.2.2.2.1 (by omega)
      refine yi_D_ls rfl (fun b14 b15 => ?_)
      generalize w17 : yi_u L 92 ((I 82 19).toNat) (L 86 (((a + 1 : Nat) : Int).toNat)) = L16
      refine yi_D_run 1 (63, [(0, .inr (.inr (some 82))), (1, .inl c)], [.inr (.inr (some 82))], (I1, L16, R, Y), 0, 0) (fun _ => rfl) ?_
      refine yi_D_gr (v := some 94) rfl rfl rfl (ym_S_at hS (j := 11) rfl).1 (fun _ => ?_)
      refine yi_D_run 1 (67, [(0, .inr (.inr (some 82))), (1, .inl c)], [.inr (.inr (some 82)), .inr (.inr (some 94))], (I1, L16, R, Y), 0, 0) (fun _ => rfl) ?_
      have r18 : I1 82 19 = I 82 19 := by rw [hGn3 82 19 (by omega)]
      refine yi_D_gi (v := I 82 19) rfl rfl rfl r18 (fun _ => ?_)
      refine yi_D_run 1 (71, [(0, .inr (.inr (some 82))), (1, .inl c)], [.inl c, .inl (I 82 19), .inr (.inr (some 94))], (I1, L16, R, Y), 0, 0) (fun _ => rfl) ?_
      refine yi_D_is rfl (fun b19 b20 => ?_)
      generalize w22 : yi_u I1 94 ((I 82 19).toNat) c = I21
      refine yi_D_run 2 (74, [(0, .inr (.inr (some 82))), (1, .inl c)], [.inr (.inr (some 82)), .inr (.inr (some 82))], (I21, L16, R, Y), 0, 0) (fun _ => rfl) ?_
      have r23 : I21 82 19 = I 82 19 := by rw [← w22, yi_u_ne _ _ (by omega), hGn3 82 19 (by omega)]
      refine yi_D_gi (v := I 82 19) rfl rfl rfl r23 (fun _ => ?_)
      refine yi_D_run 1 (78, [(0, .inr (.inr (some 82))), (1, .inl c)], [.inl 1, .inl (I 82 19), .inr (.inr (some 82))], (I21, L16, R, Y), 0, 0) (fun _ => rfl) ?_
      refine yi_D_iadd rfl ((I 82 19) + 1) (yi_wn (by omega) (by omega)) ?_
      refine yi_D_pi rfl (fun _ => ?_)
      generalize w25 : yi_u I21 82 19 ((I 82 19) + 1) = I24
      refine yi_D_run 2 (84, [(0, .inr (.inr (some 82))), (1, .inl c)], [.inr (.inr (some 82)), .inr (.inr (some 82))], (I24, L16, R, Y), 0, 0) (fun _ => rfl) ?_
      have r26 : I24 82 7 = ((a + 1 : Nat) : Int) := by rw [← w25, yi_u_ne _ _ (by omega), ← w22, yi_u_ne _ _ (by omega), hA8.1]
      refine yi_D_gi (v := ((a + 1 : Nat) : Int)) rfl rfl rfl r26 (fun _ => ?_)
      refine yi_D_run 1 (88, [(0, .inr (.inr (some 82))), (1, .inl c)], [.inl 1, .inl ((a + 1 : Nat) : Int), .inr (.inr (some 82))], (I24, L16, R, Y), 0, 0) (fun _ => rfl) ?_
      refine yi_D_iadd rfl (((a + 1 : Nat) : Int) + 1) (yi_wn (by omega) (by omega)) ?_
      refine yi_D_pi rfl (fun _ => ?_)
      generalize w28 : yi_u I24 82 7 (((a + 1 : Nat) : Int) + 1) = I27
      refine yi_D_retv rfl ?_
      exact Or.inl ⟨by omega, by omega, _, _, rfl, fun p k hp => by rw [← w28, yi_u_ne _ _ (by omega), ← w25, yi_u_ne _ _ (by omega), ← w22, yi_u_ne _ _ (by omega), ← w2, yi_u_ne _ _ (by omega)], by rw [← w28, yi_u_ne _ _ (by omega), ← w25, yi_u_ne _ _ (by omega), ← w22, yi_u_ne _ _ (by omega), ← w2, yi_u_ne _ _ (by omega)]; exact hf, ⟨by rw [← w28, yi_u_eq]; omega, by have := hA8.2; have := mt_lt hW4.2.1 hA8.2 (by omega); omega⟩, mt_W_name hW rfl (by rw [← w17, yi_u_eq]; exact hv3) (by rw [← w28, yi_u_ne _ _ (by omega), ← w25, yi_u_ne _ _ (by omega), ← w22, yi_u_eq]) (by rw [← w28, yi_u_ne _ _ (by omega), ← w25, yi_u_eq]) (fun p k hp => by rw [← w17, yi_u_ne _ _ hp]) (fun p k hp => by rw [← w28, yi_u_ne _ _ (by omega), ← w25, yi_u_ne _ _ (by omega), ← w22, yi_u_ne _ _ (by omega), ← w2, yi_u_ne _ _ (by omega)]) (by omega) hc (by omega)⟩
    · refine yi_D_if1 false rfl (yi_lt_f h10) ?_
      refine yi_D_run 2 (34, [(0, .inr (.inr (some 82))), (1, .inl c)], [.inl 3, .inr (.inr (some 82))], (I1, L, R, Y), 0, 0) (fun _ => rfl) ?_
      refine yi_D_callv rfl (q_wrong_z ⟨by omega, by omega⟩ hW4 hf7 hA8) ?_
      rintro _ ⟨I29, rfl, hg30, he31⟩
      have hGw32 : mt_G I1 I29 := fun p k hp => hg30 p k (by omega)
      have hW33 := mt_W_t hW4 (mt_G_F hGw32)
      have hF34 := mt_F_t hF5 (mt_G_F hGw32)
      have hG35 := mt_G_t hG6 hGw32
      have hz36 : 0 < sp_f P (a + 1) 3 := mt_f_ne hW4 hA8.2 (by omega)
      have hn37 : 0 < I29 82 8 := by rw [he31]; exact hz36
      show yi_D zi_Ms d zi_m100 k (37, [(0, .inr (.inr (some 82))), (1, .inl c)], [], (I29, L, R, Y), 0, 0) _
      refine yi_D_run 1 (38, [(0, .inr (.inr (some 82))), (1, .inl c)], [.inr (.inr (some 82))], (I29, L, R, Y), 0, 0) (fun _ => rfl) ?_
      refine yi_D_gi (v := I29 82 8) rfl rfl rfl rfl (fun _ => ?_)
      have h38 : ¬ ((I29 82 8) = 0) := by omega
      refine yi_D_if1 true rfl (yi_ne_t h38) ?_
      refine yi_D_retv rfl ?_
      first
      | exact Or.inr (Or.inl ⟨by omega, _, rfl, hG35, he31⟩)
      | exact Or.inr (Or.inr ⟨⟨by omega, by omega⟩, _, rfl, hG35, he31⟩)
  · show yi_D zi_Ms d zi_m100 k (14, [(0, .inr (.inr (some 82))), (1, .inl c)], [.inl 0], (I1, L, R, Y), 0, 0) _
    refine yi_D_if1 false rfl (by decide) ?_
    refine yi_D_run 2 (19, [(0, .inr (.inr (some 82))), (1, .inl c)], [.inl 1, .inr (.inr (some 82))], (I1, L, R, Y), 0, 0) (fun _ => rfl) ?_
    refine yi_D_callv rfl (q_wrong_z ⟨by omega, by omega⟩ hW4 hf7 hA8) ?_
    rintro _ ⟨I39, rfl, hg40, he41⟩
    have hGw42 : mt_G I1 I39 := fun p k hp => hg40 p k (by omega)
    have hW43 := mt_W_t hW4 (mt_G_F hGw42)
    have hF44 := mt_F_t hF5 (mt_G_F hGw42)
    have hG45 := mt_G_t hG6 hGw42
    have hz46 : 0 < sp_f P (a + 1) 1 := mt_f_ne hW4 hA8.2 (by omega)
    have hn47 : 0 < I39 82 8 := by rw [he41]; exact hz46
    show yi_D zi_Ms d zi_m100 k (22, [(0, .inr (.inr (some 82))), (1, .inl c)], [], (I39, L, R, Y), 0, 0) _
    refine yi_D_run 2 (38, [(0, .inr (.inr (some 82))), (1, .inl c)], [.inr (.inr (some 82))], (I39, L, R, Y), 0, 0) (fun _ => rfl) ?_
    refine yi_D_gi (v := I39 82 8) rfl rfl rfl rfl (fun _ => ?_)
    have h48 : ¬ ((I39 82 8) = 0) := by omega
    refine yi_D_if1 true rfl (yi_ne_t h48) ?_
    refine yi_D_retv rfl ?_
    first
    | exact Or.inr (Or.inl ⟨by omega, _, rfl, hG45, he41⟩)
    | exact Or.inr (Or.inr ⟨⟨by omega, by omega⟩, _, rfl, hG45, he41⟩)
theorem q_readName_f {d : Nat} {I L : Nat → Nat → Int} {R : Nat → Nat → Option Nat} {Y : (Nat → Nat) × (Nat → Nat) × Nat} {c : Int} {K P V : Nat → Int} {te : Nat} {ld : Nat → Int} {nm : Int → Int} (hW : mt_W I L R Y K P V te 50 ld nm) (hf : 0 < I 82 8) : yi_P zi_Ms d 100 [.inr (.inr (some 82)), .inl c] (I, L, R, Y) (fun r => ∃ I', r = (none, (I', L, R, Y), 0, 0) ∧ mt_G I I' ∧ I' 82 8 = I 82 8) := by
  refine yi_P_of (M := zi_m100) rfl (fun d k => ?_)
  have hS := hW.1
  show yi_D zi_Ms d zi_m100 k (0, [(0, .inr (.inr (some 82))), (1, .inl c)], [], (I, L, R, Y), 0, 0) _
  refine yi_D_run 2 (2, [(0, .inr (.inr (some 82))), (1, .inl c)], [.inr (.inr (some 82)), .inr (.inr (some 82))], (I, L, R, Y), 0, 0) (fun _ => rfl) ?_
  refine yi_D_gi (v := I 82 7) rfl rfl rfl rfl (fun _ => ?_)
  refine yi_D_run 2 (7, [(0, .inr (.inr (some 82))), (1, .inl c)], [.inl (yi_w ((I 82 7) + 1)), .inr (.inr (some 82))], (I, L, R, Y), 0, 0) (fun _ => rfl) ?_
  refine yi_D_pi rfl (fun _ => ?_)
  generalize w2 : yi_u I 82 7 (yi_w ((I 82 7) + 1)) = I1
  have hGn3 : mt_G I I1 := fun p k hp => by rw [← w2, yi_u_ne _ _ (by omega)]
  have hW4 := mt_W_t hW (mt_G_F hGn3)
  have hF5 := (mt_G_F hGn3)
  have hG6 := hGn3
  have hf7 : 0 < I1 82 8 := by rw [← w2, yi_u_ne _ _ (by omega)]; exact hf
  refine yi_D_run 1 (11, [(0, .inr (.inr (some 82))), (1, .inl c)], [.inr (.inr (some 82))], (I1, L, R, Y), 0, 0) (fun _ => rfl) ?_
  refine yi_D_callv rfl (q_isName_f hW4 hf7) ?_
  rintro _ rfl
  show yi_D zi_Ms d zi_m100 k (14, [(0, .inr (.inr (some 82))), (1, .inl c)], [.inl 0], (I1, L, R, Y), 0, 0) _
  refine yi_D_if1 false rfl (by decide) ?_
  refine yi_D_run 2 (19, [(0, .inr (.inr (some 82))), (1, .inl c)], [.inl 1, .inr (.inr (some 82))], (I1, L, R, Y), 0, 0) (fun _ => rfl) ?_
  refine yi_D_callv rfl (q_wrong_f hW4 hf7) ?_
  rintro _ rfl
  show yi_D zi_Ms d zi_m100 k (22, [(0, .inr (.inr (some 82))), (1, .inl c)], [], (I1, L, R, Y), 0, 0) _
  refine yi_D_run 2 (38, [(0, .inr (.inr (some 82))), (1, .inl c)], [.inr (.inr (some 82))], (I1, L, R, Y), 0, 0) (fun _ => rfl) ?_
  refine yi_D_gi (v := I1 82 8) rfl rfl rfl rfl (fun _ => ?_)
  have h8 : ¬ ((I1 82 8) = 0) := by omega
  refine yi_D_if1 true rfl (yi_ne_t h8) ?_
  refine yi_D_retv rfl ?_
  exact ⟨_, rfl, hG6, by rw [← w2, yi_u_ne _ _ (by omega)]⟩
