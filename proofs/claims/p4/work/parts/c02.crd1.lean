/-! The class reader's steps, one by one. -/
/-- what a step of the reader leaves -/
def cs_G (I L I' L' : Nat → Nat → Int) : Prop := (∀ p k, ¬ (p = 11 ∧ (k = 8 ∨ k = 9 ∨ k = 11)) → I' p k = I p k) ∧ (∀ p k, ¬ (p = 11 ∧ k = 10) → L' p k = L p k)
theorem cs_G_F {I L I' L' : Nat → Nat → Int} (h : cs_G I L I' L') : cs_F I L I' L' := ⟨fun p k a _ => h.1 p k (by omega), fun p k a => h.2 p k (by omega)⟩
theorem cs_G_r (I L : Nat → Nat → Int) : cs_G I L I L := ⟨fun _ _ _ => rfl, fun _ _ _ => rfl⟩
theorem cs_G_t {I L I' L' I2 L2 : Nat → Nat → Int} (h : cs_G I L I' L') (h2 : cs_G I' L' I2 L2) : cs_G I L I2 L2 := ⟨fun p k a => (h2.1 p k a).trans (h.1 p k a), fun p k a => (h2.2 p k a).trans (h.2 p k a)⟩
theorem sp_f_ne {I L : Nat → Nat → Int} {R : Nat → Nat → Option Nat} {Y : (Nat → Nat) × (Nat → Nat) × Nat} {K P V : Nat → Int} {te q a : Nat} {ld : Nat → Int} {nm : Int → Int} (hW : cs_W I L R Y K P V te q ld nm) (ha : a ≤ te) {w : Int} (hw : 1 ≤ w) : ¬ sp_f P a w = 0 := by
  have h := (hW.2.1.2.2.1 a ha).2.2.1.1
  unfold sp_f
  omega
theorem p_wrong_z {d : Nat} {I L : Nat → Nat → Int} {R : Nat → Nat → Option Nat} {Y : (Nat → Nat) × (Nat → Nat) × Nat} {w : Int} (w0 : 1 ≤ w ∧ w ≤ 5) {K P V : Nat → Int} {te q a : Nat} {ld : Nat → Int} {nm : Int → Int} (hW : cs_W I L R Y K P V te q ld nm) (hf : I 11 11 = 0) (hA : cs_A I L K te a) : yi_P zi_Ms d 272 [.inr (.inr (some 11)), .inl w] (I, L, R, Y) (fun r => ∃ I', r = (none, (I', L, R, Y), 0, 0) ∧ (∀ p k, ¬ (p = 11 ∧ k = 11) → I' p k = I p k) ∧ I' 11 11 = sp_f P a w) := by
  refine yi_P_of (M := zi_m272) rfl (fun d k => ?_)
  have ht := hW.2.1.1
  have ha := hA.2.1
  have hp := hW.2.1.2.2.1 a hA.2.1
  have hp2 := hp.2.2.1
  show yi_D zi_Ms d zi_m272 k (0, [(0, .inr (.inr (some 11))), (1, .inl w)], [], (I, L, R, Y), 0, 0) _
  refine yi_D_run 1 (1, [(0, .inr (.inr (some 11))), (1, .inl w)], [.inr (.inr (some 11))], (I, L, R, Y), 0, 0) (fun _ => rfl) ?_
  refine yi_D_gi (v := 0) rfl rfl rfl hf (fun _ => ?_)
  refine yi_D_if1 false rfl (by decide) ?_
  refine yi_D_run 1 (8, [(0, .inr (.inr (some 11))), (1, .inl w)], [.inr (.inr (some 11))], (I, L, R, Y), 0, 0) (fun _ => rfl) ?_
  refine yi_D_gi (v := (a : Int)) rfl rfl rfl hA.1 (fun _ => ?_)
  have h1 : ¬ ((a : Int) < 0) := by omega
  refine yi_D_if1 false rfl (yi_lt_f h1) ?_
  refine yi_D_run 1 (15, [(0, .inr (.inr (some 11))), (1, .inl w)], [.inr (.inr (some 11))], (I, L, R, Y), 0, 0) (fun _ => rfl) ?_
  refine yi_D_gi (v := (a : Int)) rfl rfl rfl hA.1 (fun _ => ?_)
  refine yi_D_run 1 (19, [(0, .inr (.inr (some 11))), (1, .inl w)], [.inr (.inr (some 11)), .inl (a : Int)], (I, L, R, Y), 0, 0) (fun _ => rfl) ?_
  refine yi_D_gr (v := some 12) rfl rfl rfl hW.1.1.1 (fun _ => ?_)
  refine yi_D_gr (v := some 15) rfl rfl rfl hW.1.2.1.2.2.1 (fun _ => ?_)
  refine yi_D_len (v := 1001) rfl rfl (by rw [hW.1.2.2.2.2.1]; rfl) ?_
  have h2 : ¬ (1001 ≤ (a : Int)) := by omega
  refine yi_D_if2 false rfl (yi_ge_f h2) ?_
  refine yi_D_run 4 (34, [(0, .inr (.inr (some 11))), (1, .inl w)], [.inr (.inr (some 11)), .inl 16, .inl w, .inr (.inr (some 11))], (I, L, R, Y), 0, 0) (fun _ => rfl) ?_
  refine yi_D_gr (v := some 12) rfl rfl rfl hW.1.1.1 (fun _ => ?_)
  refine yi_D_gr (v := some 15) rfl rfl rfl hW.1.2.1.2.2.1 (fun _ => ?_)
  refine yi_D_run 1 (41, [(0, .inr (.inr (some 11))), (1, .inl w)], [.inr (.inr (some 11)), .inr (.inr (some 15)), .inl 16, .inl w, .inr (.inr (some 11))], (I, L, R, Y), 0, 0) (fun _ => rfl) ?_
  refine yi_D_gi (v := (a : Int)) rfl rfl rfl hA.1 (fun _ => ?_)
  refine yi_D_il (v := P a) rfl rfl hp.2.1 (fun _ _ => ?_)
  refine yi_D_imul rfl (16 * (P a)) (yi_wn (by omega) (by omega)) ?_
  refine yi_D_iadd rfl (w + (16 * (P a))) (yi_wn (by omega) (by omega)) ?_
  refine yi_D_pi rfl (fun _ => ?_)
  generalize w4 : yi_u I 11 11 (w + (16 * (P a))) = I3
  refine yi_D_retv rfl ?_
  refine ⟨_, rfl, (fun p k hp0 => by rw [← w4, yi_u_ne _ _ (by omega)]), ?_⟩
  rw [← w4, yi_u_eq]
  rfl
theorem p_wrong_f {d : Nat} {I L : Nat → Nat → Int} {R : Nat → Nat → Option Nat} {Y : (Nat → Nat) × (Nat → Nat) × Nat} {w : Int} {K P V : Nat → Int} {te q : Nat} {ld : Nat → Int} {nm : Int → Int} (hW : cs_W I L R Y K P V te q ld nm) (hf : ¬ I 11 11 = 0) : yi_P zi_Ms d 272 [.inr (.inr (some 11)), .inl w] (I, L, R, Y) (fun r => r = (none, (I, L, R, Y), 0, 0)) := by
  refine yi_P_of (M := zi_m272) rfl (fun d k => ?_)
  show yi_D zi_Ms d zi_m272 k (0, [(0, .inr (.inr (some 11))), (1, .inl w)], [], (I, L, R, Y), 0, 0) _
  refine yi_D_run 1 (1, [(0, .inr (.inr (some 11))), (1, .inl w)], [.inr (.inr (some 11))], (I, L, R, Y), 0, 0) (fun _ => rfl) ?_
  refine yi_D_gi (v := I 11 11) rfl rfl rfl rfl (fun _ => ?_)
  have h1 : ¬ ((I 11 11) = 0) := by omega
  refine yi_D_if1 true rfl (yi_ne_t h1) ?_
  refine yi_D_retv rfl ?_
  rfl
theorem p_advance_z {d : Nat} {I L : Nat → Nat → Int} {R : Nat → Nat → Option Nat} {Y : (Nat → Nat) × (Nat → Nat) × Nat} {K P V : Nat → Int} {te q a : Nat} {ld : Nat → Int} {nm : Int → Int} (hW : cs_W I L R Y K P V te q ld nm) (hf : I 11 11 = 0) (hA : cs_A I L K te a) : yi_P zi_Ms d 247 [.inr (.inr (some 11))] (I, L, R, Y) (fun r => ∃ I' L', r = (none, (I', L', R, Y), 0, 0) ∧ cs_G I L I' L' ∧ I' 11 11 = 0 ∧ cs_A I' L' K te (sp_nx te a)) := by
  refine yi_P_of (M := zi_m247) rfl (fun d k => ?_)
  have ht := hW.2.1.1
  have ha := hA.2.1
  have hp := hW.2.1.2.2.1 a hA.2.1
  have hi : ((a : Int) + 1).toNat = a + 1 := by omega
  have h6 := hW.2.1.2.1
  show yi_D zi_Ms d zi_m247 k (0, [(0, .inr (.inr (some 11)))], [], (I, L, R, Y), 0, 0) _
  refine yi_D_run 1 (1, [(0, .inr (.inr (some 11)))], [.inr (.inr (some 11))], (I, L, R, Y), 0, 0) (fun _ => rfl) ?_
  refine yi_D_gi (v := (a : Int)) rfl rfl rfl hA.1 (fun _ => ?_)
  refine yi_D_run 1 (5, [(0, .inr (.inr (some 11)))], [.inl 1, .inl (a : Int)], (I, L, R, Y), 0, 0) (fun _ => rfl) ?_
  refine yi_D_iadd rfl ((a : Int) + 1) (yi_wn (by omega) (by omega)) ?_
  refine yi_D_run 2 (8, [(1, .inl ((a : Int) + 1)), (0, .inr (.inr (some 11)))], [.inr (.inr (some 11))], (I, L, R, Y), 0, 0) (fun _ => rfl) ?_
  refine yi_D_gi (v := 0) rfl rfl rfl hf (fun _ => ?_)
  refine yi_D_if1 false rfl (by decide) ?_
  refine yi_D_run 2 (16, [(1, .inl ((a : Int) + 1)), (0, .inr (.inr (some 11)))], [.inr (.inr (some 11)), .inl ((a : Int) + 1)], (I, L, R, Y), 0, 0) (fun _ => rfl) ?_
  refine yi_D_gr (v := some 12) rfl rfl rfl hW.1.1.1 (fun _ => ?_)
  refine yi_D_gi (v := (te : Int) + 1) rfl rfl rfl h6 (fun _ => ?_)
  by_cases h1 : ((te : Int) + 1) ≤ ((a : Int) + 1)
  · refine yi_D_if2 true rfl (yi_ge_t h1) ?_
    refine yi_D_retv rfl ?_
    refine ⟨I, L, rfl, cs_G_r I L, hf, ?_⟩
    rw [show sp_nx te a = a from if_neg (by omega)]
    exact hA
  · refine yi_D_if2 false rfl (yi_ge_f h1) ?_
    refine yi_D_run 2 (27, [(1, .inl ((a : Int) + 1)), (0, .inr (.inr (some 11)))], [.inr (.inr (some 11)), .inl ((a : Int) + 1)], (I, L, R, Y), 0, 0) (fun _ => rfl) ?_
    refine yi_D_gr (v := some 12) rfl rfl rfl hW.1.1.1 (fun _ => ?_)
    refine yi_D_gr (v := some 14) rfl rfl rfl hW.1.2.1.2.1 (fun _ => ?_)
    refine yi_D_len (v := 1001) rfl rfl (by rw [hW.1.2.2.2.1]; rfl) ?_
    have h2 : ¬ (1001 ≤ ((a : Int) + 1)) := by omega
    refine yi_D_if2 false rfl (yi_ge_f h2) ?_
    refine yi_D_run 2 (39, [(1, .inl ((a : Int) + 1)), (0, .inr (.inr (some 11)))], [.inr (.inr (some 11)), .inl ((a : Int) + 1)], (I, L, R, Y), 0, 0) (fun _ => rfl) ?_
    refine yi_D_gr (v := some 12) rfl rfl rfl hW.1.1.1 (fun _ => ?_)
    refine yi_D_gr (v := some 16) rfl rfl rfl hW.1.2.1.2.2.2.1 (fun _ => ?_)
    refine yi_D_len (v := 1001) rfl rfl (by rw [hW.1.2.2.2.2.2.1]; rfl) ?_
    have h3 : ¬ (1001 ≤ ((a : Int) + 1)) := by omega
    refine yi_D_if2 false rfl (yi_ge_f h3) ?_
    refine yi_D_run 2 (51, [(1, .inl ((a : Int) + 1)), (0, .inr (.inr (some 11)))], [.inl ((a : Int) + 1), .inr (.inr (some 11))], (I, L, R, Y), 0, 0) (fun _ => rfl) ?_
    refine yi_D_pi rfl (fun _ => ?_)
    generalize w5 : yi_u I 11 8 ((a : Int) + 1) = I4
    refine yi_D_run 2 (56, [(1, .inl ((a : Int) + 1)), (0, .inr (.inr (some 11)))], [.inr (.inr (some 11)), .inr (.inr (some 11))], (I4, L, R, Y), 0, 0) (fun _ => rfl) ?_
    refine yi_D_gr (v := some 12) rfl rfl rfl hW.1.1.1 (fun _ => ?_)
    refine yi_D_gr (v := some 14) rfl rfl rfl hW.1.2.1.2.1 (fun _ => ?_)
    refine yi_D_run 1 (63, [(1, .inl ((a : Int) + 1)), (0, .inr (.inr (some 11)))], [.inl ((a : Int) + 1), .inr (.inr (some 14)), .inr (.inr (some 11))], (I4, L, R, Y), 0, 0) (fun _ => rfl) ?_
    have hr14 : I 14 ((a : Int) + 1).toNat = K (a + 1) := by rw [hi]; exact (hW.2.1.2.2.1 (a + 1) (by omega)).1
    have r6 : I4 14 (((a : Int) + 1).toNat) = I 14 (((a : Int) + 1).toNat) := by rw [← w5, yi_u_ne _ _ (by omega)]
    refine yi_D_il (v := I 14 (((a : Int) + 1).toNat)) rfl rfl r6 (fun _ _ => ?_)
    refine yi_D_pi rfl (fun _ => ?_)
    generalize w8 : yi_u I4 11 9 (I 14 (((a : Int) + 1).toNat)) = I7
    refine yi_D_run 2 (69, [(1, .inl ((a : Int) + 1)), (0, .inr (.inr (some 11)))], [.inr (.inr (some 11)), .inr (.inr (some 11))], (I7, L, R, Y), 0, 0) (fun _ => rfl) ?_
    refine yi_D_gr (v := some 12) rfl rfl rfl hW.1.1.1 (fun _ => ?_)
    refine yi_D_gr (v := some 16) rfl rfl rfl hW.1.2.1.2.2.2.1 (fun _ => ?_)
    refine yi_D_run 1 (76, [(1, .inl ((a : Int) + 1)), (0, .inr (.inr (some 11)))], [.inl ((a : Int) + 1), .inr (.inr (some 16)), .inr (.inr (some 11))], (I7, L, R, Y), 0, 0) (fun _ => rfl) ?_
    refine yi_D_ll (v := L 16 (((a : Int) + 1).toNat)) rfl rfl rfl (fun _ _ => ?_)
    refine yi_D_pl rfl (fun _ => ?_)
    generalize w10 : yi_u L 11 10 (L 16 (((a : Int) + 1).toNat)) = L9
    refine yi_D_retv rfl ?_
    refine ⟨_, _, rfl, ⟨(fun p k hp0 => by rw [← w8, yi_u_ne _ _ (by omega), ← w5, yi_u_ne _ _ (by omega)]), (fun p k hp0 => by rw [← w10, yi_u_ne _ _ (by omega)])⟩, ?_, ?_⟩
    · rw [← w8, yi_u_ne _ _ (by omega), ← w5, yi_u_ne _ _ (by omega)]; exact hf
    · rw [show sp_nx te a = a + 1 from if_pos (by omega)]
      refine ⟨?_, by omega, ?_, ?_⟩
      · rw [← w8, yi_u_ne _ _ (by omega), ← w5, yi_u_eq]; omega
      · rw [← w8, yi_u_eq, hr14]
      · rw [← w10, yi_u_eq, yi_u_ne _ _ (by omega), hi]
theorem p_advance_f {d : Nat} {I L : Nat → Nat → Int} {R : Nat → Nat → Option Nat} {Y : (Nat → Nat) × (Nat → Nat) × Nat} {K P V : Nat → Int} {te q : Nat} {ld : Nat → Int} {nm : Int → Int} (hW : cs_W I L R Y K P V te q ld nm) (hf : ¬ I 11 11 = 0) : yi_P zi_Ms d 247 [.inr (.inr (some 11))] (I, L, R, Y) (fun r => r = (none, (I, L, R, Y), 0, 0)) := by
  refine yi_P_of (M := zi_m247) rfl (fun d k => ?_)
  show yi_D zi_Ms d zi_m247 k (0, [(0, .inr (.inr (some 11)))], [], (I, L, R, Y), 0, 0) _
  refine yi_D_run 1 (1, [(0, .inr (.inr (some 11)))], [.inr (.inr (some 11))], (I, L, R, Y), 0, 0) (fun _ => rfl) ?_
  refine yi_D_gi (v := I 11 8) rfl rfl rfl rfl (fun _ => ?_)
  refine yi_D_run 4 (8, [(1, .inl (yi_w ((I 11 8) + 1))), (0, .inr (.inr (some 11)))], [.inr (.inr (some 11))], (I, L, R, Y), 0, 0) (fun _ => rfl) ?_
  refine yi_D_gi (v := I 11 11) rfl rfl rfl rfl (fun _ => ?_)
  have h1 : ¬ ((I 11 11) = 0) := by omega
  refine yi_D_if1 true rfl (yi_ne_t h1) ?_
  refine yi_D_retv rfl ?_
  rfl
