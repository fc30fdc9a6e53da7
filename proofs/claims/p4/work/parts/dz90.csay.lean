/-! The class reads a saying, a formula that is asked: with codes. -/
def ft_fg (c k : Nat) : Bool := false
def ft_fp (c k : Nat) : Bool := Nat.beq c 1 && Nat.beq k 4
def ft_F0 : List Nat := [143, 225, 247, 249, 250, 256, 257, 260, 266, 268, 269, 271, 272]
def ft_ff (mi : Nat) : Bool := ft_F0.any (Nat.beq mi)
def ft_dr (mi : Nat) : Bool := ([] : List Nat).any (Nat.beq mi)
def ft_vr (mi : Nat) : Bool := match zi_Ms[mi]? with | some M => M.2.2.2.1.isSome | none => false
def ft_da (mi : Nat) : List Bool := match mi with
  | _ => []
def ft_dk (mi : Nat) : List Nat := match mi with
  | _ => []
def ft_dl (mi j : Nat) : Bool := (ft_dk mi).any (Nat.beq j)
def ft_sa (mi pc : Nat) : List Bool := bif Nat.beq pc 0 then [] else match mi with
  | _ => []
theorem ft_t0 : ft_F0.all (fun mi => (match zi_Ms[mi]? with | some M => cq_dk (ft_dl mi) 0 (ft_da mi) && cq_tb ft_fg ft_fp false true (ft_dr mi) ft_ff ft_dr ft_vr ft_da (ft_dl mi) (ft_sa mi) M.2.2.2.2.1 | none => true)) = true := by decide +kernel
theorem ft_im {mi : Nat} {M : zi_M} {l : List Nat} (h : l.any (Nat.beq mi) = true) (ha : l.all (fun mi => (match zi_Ms[mi]? with | some M => cq_dk (ft_dl mi) 0 (ft_da mi) && cq_tb ft_fg ft_fp false true (ft_dr mi) ft_ff ft_dr ft_vr ft_da (ft_dl mi) (ft_sa mi) M.2.2.2.2.1 | none => true)) = true) (hm : zi_Ms[mi]? = some M) : M.2.2.2.1.isSome = ft_vr mi ∧ cq_dk (ft_dl mi) 0 (ft_da mi) = true ∧ cq_tb ft_fg ft_fp false true (ft_dr mi) ft_ff ft_dr ft_vr ft_da (ft_dl mi) (ft_sa mi) M.2.2.2.2.1 = true := by
  obtain ⟨x, hx, e⟩ := List.any_eq_true.mp h
  have e := Nat.eq_of_beq_eq_true e
  subst e
  have z := List.all_eq_true.mp ha mi hx
  rw [hm] at z
  have z := (Bool.and_eq_true _ _).mp z
  refine ⟨?_, z.1, z.2⟩
  unfold ft_vr
  rw [hm]
theorem ft_M (mi : Nat) (M : zi_M) (h : ft_ff mi = true) (hm : zi_Ms[mi]? = some M) : M.2.2.2.1.isSome = ft_vr mi ∧ cq_dk (ft_dl mi) 0 (ft_da mi) = true ∧ cq_tb ft_fg ft_fp false true (ft_dr mi) ft_ff ft_dr ft_vr ft_da (ft_dl mi) (ft_sa mi) M.2.2.2.2.1 = true := by
  unfold ft_ff at h
  repeat rw [Bool.or_eq_true] at h
  exact ft_im h ft_t0 hm
theorem ft_s0 (mi : Nat) : ft_sa mi 0 = [] := rfl
theorem ft_c2 (c k : Nat) (h : ft_fp c k = true) : c < 20 := by
  unfold ft_fp at h
  rw [Bool.and_eq_true] at h
  have := Nat.eq_of_beq_eq_true h.1
  omega
def ft_ps (p k : Nat) : Bool := Nat.beq p 11 && Nat.beq k 4
def ft_K (R : Nat → Nat → Option Nat) (Y : (Nat → Nat) × (Nat → Nat) × Nat) : Prop := ∀ I L, cq_I (fun _ => false) ft_ps ft_fg ft_fp false (I, L, R, Y)
theorem ft_cla (n d : Nat) : cq_cl (fun _ => false) ft_ps ft_fg ft_fp false true ft_ff ft_dr ft_vr ft_da (yi_ev zi_Ms n d) := cq_all (fun q h => absurd h Bool.false_ne_true) (fun c k h => absurd h Bool.false_ne_true) ft_c2 ft_s0 ft_M n d
theorem ft_P {d : Nat} {I L : Nat → Nat → Int} {R : Nat → Nat → Option Nat} {Y : (Nat → Nat) × (Nat → Nat) × Nat} {x : Int} (hi : ft_K R Y) (hN : 11 < Y.2.2) : yi_P zi_Ms d 256 [.inr (.inr (some 11)), .inl x] (I, L, R, Y) (fun r => r.2.1.1 11 4 = I 11 4) := by
  intro n r e
  exact ((ft_cla n d 256 _ (I, L, R, Y) r (by decide +kernel) (fx_v (cy_c (cy_p hN) (cy_c (cy_i _) cy_0))) (hi I L) e).2.2.2.1 11 4 (Or.inr rfl)).1
theorem ft_I {R : Nat → Nat → Option Nat} {Y : (Nat → Nat) × (Nat → Nat) × Nat} (hA : at_T R Y) (hn : kn_K R Y) : ft_K R Y := by
  have hN := hA.2.2.2
  intro I L
  obtain ⟨z1, -, -, z4, -⟩ := hn I L
  refine ⟨fun p k q hp e => ⟨(z1 p k q hp e).1, fun h => absurd h Bool.false_ne_true⟩, fun p k h => ?_, fun q h => absurd h Bool.false_ne_true, z4⟩
  show ft_fp (Y.1 p) k = true ∧ p < Y.2.2
  have h : (Nat.beq p 11 && Nat.beq k 4) = true := h
  rw [Bool.and_eq_true] at h
  obtain rfl := Nat.eq_of_beq_eq_true h.1
  rw [show Y.1 11 = 1 from at_k hA (j := 1) rfl]
  refine ⟨?_, by omega⟩
  show (Nat.beq 1 1 && Nat.beq k 4) = true
  rw [h.2]
  rfl
/-- a formula that stands alone -/
theorem p_rfC {d : Nat} {I L : Nat → Nat → Int} {R : Nat → Nat → Option Nat} {Y : (Nat → Nat) × (Nat → Nat) × Nat} {K P V : Nat → Int} {te q a : Nat} {ld : Nat → Int} {nm : Int → Int} {da : Nat} {vg : Int} (hW : cs_W I L R Y K P V te q ld nm) (hf : I 11 11 = 0) (hA : cs_A I L K te a) (hda : ld 0 = (da : Int)) (h3 : I 11 3 = 0) (h5 : I 11 5 = 0) (h7 : I 11 7 = vg) (hft : ft_K R Y) (hN : 11 < Y.2.2) : yi_P zi_Ms d 256 [.inr (.inr (some 11)), .inl 0] (I, L, R, Y) (fun r => (∃ I' L' a' cs, r = (none, (I', L', R, Y), 0, 0) ∧ cs_F I L I' L' ∧ I' 11 4 = I 11 4 ∧ sp_R K P V (3, a, 0, [10, 22], ld, nm, []) (.inl (7, a', 0, [22], ld, nm, cs)) ∧ I' 11 11 = 0 ∧ cs_A I' L' K te a' ∧ cc_S (trF da vg) 0 [] (fun k => I 19 k) 0 vg false I' cs ∧ cs.length + a ≤ a') ∨ (∃ I' L' f, r = (none, (I', L', R, Y), 0, 0) ∧ cs_F I L I' L' ∧ I' 11 4 = I 11 4 ∧ sp_R K P V (3, a, 0, [10, 22], ld, nm, []) (.inr f) ∧ ¬ f = 0 ∧ I' 11 11 = f)) := by
  have hcc : cc_S (trF da vg) 0 [] (fun k => I 19 k) 0 vg false I [] := by
    have z := cc_S_0 (tr := trF da vg) (u0 := 0) (cs := []) (I := I) (vg := vg) h3 h7
    rw [h5] at z
    exact z
  have hte := hW.2.1.1
  have hal := hA.2.1
  refine (yi_P_a (p_readFormulaC 0 [22] [] hW hf hA (by omega) hda hcc (by show 0 + 0 + te ≤ 1001 + 0 + a; omega)) (ft_P hft hN)).imp (fun r ⟨⟨I', L', e, hF, h⟩, h4⟩ => ?_)
  subst e
  rcases h with ⟨a', cs', h1, -, h2, h3', h5', h6⟩ | ⟨f, h1, h2, h3'⟩
  · exact Or.inl ⟨I', L', a', cs', rfl, hF, h4, h1, h2, h3', h5', (by have h6 : cs'.length + a ≤ 0 + a' := h6; omega)⟩
  · exact Or.inr ⟨I', L', f, rfl, hF, h4, h1, h2, h3'⟩
theorem p_takeKind_g {d : Nat} {I L : Nat → Nat → Int} {R : Nat → Nat → Option Nat} {Y : (Nat → Nat) × (Nat → Nat) × Nat} {K P V : Nat → Int} {te q a : Nat} {ld : Nat → Int} {nm : Int → Int} (hW : cs_W I L R Y K P V te q ld nm) (hf : I 11 11 = 0) (hA : cs_A I L K te a) : yi_P zi_Ms d 268 [.inr (.inr (some 11)), .inl 0] (I, L, R, Y) (fun r => (K a = 0 ∧ ∃ I' L', r = (none, (I', L', R, Y), 0, 0) ∧ cs_G I L I' L' ∧ I' 11 11 = 0) ∨ (¬ K a = 0 ∧ ∃ I' L', r = (none, (I', L', R, Y), 0, 0) ∧ cs_G I L I' L' ∧ I' 11 11 = sp_f P a 1)) := by
  refine yi_P_of (M := zi_m268) rfl (fun d k => ?_)
  show yi_D zi_Ms d zi_m268 k (0, [(0, .inr (.inr (some 11))), (1, .inl 0)], [], (I, L, R, Y), 0, 0) _
  refine yi_D_run 1 (1, [(0, .inr (.inr (some 11))), (1, .inl 0)], [.inr (.inr (some 11))], (I, L, R, Y), 0, 0) (fun _ => rfl) ?_
  refine yi_D_gi (v := K a) rfl rfl rfl hA.2.2.1 (fun _ => ?_)
  refine yi_D_run 1 (5, [(0, .inr (.inr (some 11))), (1, .inl 0)], [.inl 0, .inl (K a)], (I, L, R, Y), 0, 0) (fun _ => rfl) ?_
  by_cases h1 : (K a) = 0
  · refine yi_D_if2 true rfl (yi_eq_t h1) ?_
    refine yi_D_run 1 (14, [(0, .inr (.inr (some 11))), (1, .inl 0)], [.inr (.inr (some 11))], (I, L, R, Y), 0, 0) (fun _ => rfl) ?_
    refine yi_D_callv rfl (p_advance_z hW hf hA) ?_
    rintro _ ⟨I2, L3, rfl, G4, f5, A6⟩
    show yi_D zi_Ms d zi_m268 k (17, [(0, .inr (.inr (some 11))), (1, .inl 0)], [], (I2, L3, R, Y), 0, 0) _
    refine yi_D_retv rfl ?_
    exact Or.inl ⟨by assumption, _, _, rfl, G4, f5⟩
  · refine yi_D_if2 false rfl (yi_eq_f h1) ?_
    refine yi_D_run 2 (10, [(0, .inr (.inr (some 11))), (1, .inl 0)], [.inl 1, .inr (.inr (some 11))], (I, L, R, Y), 0, 0) (fun _ => rfl) ?_
    refine yi_D_callv rfl (p_wrong_z (by omega) hW hf hA) ?_
    rintro _ ⟨I7, rfl, fI8, e9⟩
    have G10 : cs_G I L I7 L := ⟨fun p k h => fI8 p k (by omega), fun _ _ _ => rfl⟩
    have W11 := cs_W_t hW (cs_G_F G10)
    have n12 : ¬ I7 11 11 = 0 := by rw [e9]; exact sp_f_ne hW hA.2.1 (by omega)
    show yi_D zi_Ms d zi_m268 k (13, [(0, .inr (.inr (some 11))), (1, .inl 0)], [], (I7, L, R, Y), 0, 0) _
    refine yi_D_run 1 (14, [(0, .inr (.inr (some 11))), (1, .inl 0)], [.inr (.inr (some 11))], (I7, L, R, Y), 0, 0) (fun _ => rfl) ?_
    refine yi_D_callv rfl (p_advance_f W11 n12) ?_
    rintro _ rfl
    show yi_D zi_Ms d zi_m268 k (17, [(0, .inr (.inr (some 11))), (1, .inl 0)], [], (I7, L, R, Y), 0, 0) _
    refine yi_D_retv rfl ?_
    exact Or.inr ⟨by assumption, _, _, rfl, G10, e9⟩
/-- what a saying's text answers -/
def sy_F (K P V : Nat → Int) (ld : Nat → Int) (nm : Int → Int) (f : Int) : Prop := (¬ K 0 = 3 ∧ f = sp_f P 0 1) ∨ (K 0 = 3 ∧ ¬ (8 ≤ nm (V 0) ∧ nm (V 0) ≤ 12) ∧ f = sp_f P 0 2) ∨ (K 0 = 3 ∧ (8 ≤ nm (V 0) ∧ nm (V 0) ≤ 12) ∧ sp_R K P V (3, 1, 0, [10, 22], ld, nm, []) (.inr f))
def sat (kd : Int) : List Nat := if kd = 2 then [1] else []
/-- a saying's codes -/
def say_S (I : Nat → Nat → Int) (da : Nat) (cs : List (Int × Int)) (kd : Int) : Prop := I 11 3 = ((cs.length + (sat kd).length : Nat) : Int) ∧ I 11 5 = (if cs.any isnm = true then 1 else 0) ∧ (∀ k, k < cs.length → I 19 k = trF da (wvg kd) (cs.getD k (0, 0))) ∧ ∀ k, k < (sat kd).length → I 19 (cs.length + k) = (((sat kd).getD k 0 : Nat) : Int)
theorem say_0 {I I' : Nat → Nat → Int} {da : Nat} {cs : List (Int × Int)} {kd : Int} {fx : Nat → Int} (h : cc_S (trF da (wvg kd)) 0 [] fx 0 (wvg kd) false I cs) (hk : ¬ kd = 2) (e3 : I' 11 3 = I 11 3) (e5 : I' 11 5 = I 11 5) (f : ∀ k, I' 19 k = I 19 k) : say_S I' da cs kd := by
  obtain ⟨-, h2, -, h4, -, h6⟩ := h
  have es : sat kd = [] := if_neg hk
  refine ⟨?_, ?_, fun k hk => ?_, fun k hk => ?_⟩
  · rw [e3, h2, es]
    show ((0 + (cs.length - 0) : Nat) : Int) = ((cs.length + 0 : Nat) : Int)
    rw [Nat.sub_zero, Nat.zero_add, Nat.add_zero]
  · rw [e5, h6]
    rfl
  · have z := h4 k (by show 0 + k < cs.length; omega)
    rw [Nat.zero_add] at z
    rw [f k, z]
    show trF da (wvg kd) (cs.getD (0 + k) (0, 0)) = _
    rw [Nat.zero_add]
  · rw [es] at hk
    exact absurd hk (Nat.not_lt_zero k)
theorem say_1 {I I1 I' : Nat → Nat → Int} {da : Nat} {cs : List (Int × Int)} {kd : Int} {fx : Nat → Int} (h : cc_S (trF da (wvg kd)) 0 [] fx 0 (wvg kd) false I cs) (hk : kd = 2) (hE : cc_E I I1 cs.length 1) (e3 : I' 11 3 = I1 11 3) (e5 : I' 11 5 = I1 11 5) (f : ∀ k, I' 19 k = I1 19 k) : say_S I' da cs kd := by
  obtain ⟨-, h2, -, h4, -, h6⟩ := h
  obtain ⟨g1, g2, g3⟩ := hE
  have es : sat kd = [1] := if_pos hk
  refine ⟨?_, ?_, fun k hk => ?_, fun k hk => ?_⟩
  · rw [e3, g2, es]
    rfl
  · rw [e5, g3 11 5 (by omega) (by omega), h6]
    rfl
  · have z := h4 k (by show 0 + k < cs.length; omega)
    rw [Nat.zero_add] at z
    rw [f k, g3 19 k (by omega) (by omega), z]
    show trF da (wvg kd) (cs.getD (0 + k) (0, 0)) = _
    rw [Nat.zero_add]
  · rw [es] at hk ⊢
    have hk : k < 1 := hk
    obtain rfl : k = 0 := by omega
    rw [f _, Nat.add_zero, g1]
    rfl
theorem ft_R {R R' : Nat → Nat → Option Nat} {Y : (Nat → Nat) × (Nat → Nat) × Nat} (h : ft_K R Y) (hN : 110 ≤ Y.2.2) (f : ∀ p k, ¬ (p = 11 ∧ k = 6) → R' p k = R p k) (hb : ∀ q, R' 11 6 = some q → q < Y.2.2) : ft_K R' Y := fun I L => by
  obtain ⟨z1, z2, z3, z4⟩ := h I L
  refine ⟨fun p k q hp e => ⟨?_, fun h => absurd h Bool.false_ne_true⟩, z2, z3, z4⟩
  have e : R' p k = some q := e
  show q < Y.2.2
  by_cases c : p = 11 ∧ k = 6
  · rw [c.1, c.2] at e
    exact hb q e
  · rw [f p k c] at e
    exact (z1 p k q hp e).1
theorem p_readSayingC {d : Nat} {I L : Nat → Nat → Int} {R : Nat → Nat → Option Nat} {Y : (Nat → Nat) × (Nat → Nat) × Nat} {K P V : Nat → Int} {te q da : Nat} {ld : Nat → Int} {nm : Int → Int} (hS : cs_S R Y) (hT : cs_T I L K P V te) (hq : lq_C q ld nm I L R Y) (h20 : 20 ≤ q) (hda : ld 0 = (da : Int)) (hft : ft_K R Y) (hN : 110 ≤ Y.2.2) : yi_P zi_Ms d 265 [.inr (.inr (some 11)), .inr (.inr (some q))] (I, L, R, Y) (fun r => ∃ f I' L' R', r = (some (.inl f), (I', L', R', Y), 0, 0) ∧ sy_F K P V ld nm f ∧ ((∀ p k, p ≠ 11 → p ≠ 19 → I' p k = I p k) ∧ (∀ p k, p ≠ 11 → L' p k = L p k) ∧ ∀ p k, ¬ (p = 11 ∧ k = 6) → R' p k = R p k) ∧ (f = 0 → ∃ a cs, (sp_R K P V (3, 1, 0, [10, 22], ld, nm, []) (.inl (7, a, 0, [22], ld, nm, cs)) ∧ K a = 59 ∧ K (a + 1) = 0) ∧ (K 0 = 3 ∧ 8 ≤ nm (V 0) ∧ nm (V 0) ≤ 12) ∧ I' 11 4 = nm (V 0) - 8 ∧ say_S I' da cs (ld (11 + 2 * (nm (V 0) - 8).toNat)) ∧ cs.length ≤ 1000)) := by
  refine yi_P_of (M := zi_m265) rfl (fun d k => ?_)
  show yi_D zi_Ms d zi_m265 k (0, [(0, .inr (.inr (some 11))), (1, .inr (.inr (some q)))], [], (I, L, R, Y), 0, 0) _
  refine yi_D_run 2 (2, [(0, .inr (.inr (some 11))), (1, .inr (.inr (some q)))], [.inr (.inr (some q)), .inr (.inr (some 11))], (I, L, R, Y), 0, 0) (fun _ => rfl) ?_
  refine yi_D_callv rfl (p_beginC ⟨hS, hT⟩) ?_
  rintro _ ⟨I1, L2, R3, rfl, f4, A5, fr6, r67, fR8, z39, z510, z711⟩
  have hq1 := lq_C_t (I' := I1) (L' := L2) (R' := R3) (Y' := Y) hq (fun p k h1 h2 => ⟨(fr6 p k (by omega)).1, (fr6 p k (by omega)).2, fR8 p k (by omega)⟩) (fun _ _ => rfl) (Nat.le_refl _)
  obtain ⟨R2, e2, hc2⟩ := hq1
  have hR2 : R2 = R3 := by
      funext p k
      by_cases c : p = 11 ∧ k = 6
      · rw [c.1, c.2, hc2.1.2.1, r67]
      · exact e2 p k c
  rw [hR2] at hc2
  have hW : cs_W I1 L2 R3 Y K P V te q ld nm := ⟨cs_S_r hS fR8, cs_T_11 hT (fun p k h => (fr6 p k h).1) (fun p k h => (fr6 p k h).2), hc2⟩
  have F12 : cs_F I L I1 L2 := ⟨fun p k h _ => (fr6 p k h).1, fun p k h => (fr6 p k h).2⟩
  have hft1 : ft_K R3 Y := ft_R hft hN fR8 (by have := hc2.1.2.2.2.2.2.2; rw [r67]; intro q1 e; cases e; omega)
  have hlb := hc2.2.2.1
  have hlen := hc2.1.2.2.2
  have hte := hT.1
  show yi_D zi_Ms d zi_m265 k (5, [(0, .inr (.inr (some 11))), (1, .inr (.inr (some q)))], [], (I1, L2, R3, Y), 0, 0) _
  refine yi_D_run 3 (8, [(0, .inr (.inr (some 11))), (1, .inr (.inr (some q)))], [.inr (.inr (some q)), .inr (.inr (some 11)), .inr (.inr (some 11))], (I1, L2, R3, Y), 0, 0) (fun _ => rfl) ?_
  refine yi_D_gr (v := some (q + 3)) rfl rfl (Nat.ble_eq_true_of_le (by omega)) (hW.2.2.1.2.2.1 2 (by omega)) (fun _ => ?_)
  refine yi_D_run 1 (12, [(0, .inr (.inr (some 11))), (1, .inr (.inr (some q)))], [.inr (.inr (some q)), .inr (.inr (some (q + 3))), .inr (.inr (some 11)), .inr (.inr (some 11))], (I1, L2, R3, Y), 0, 0) (fun _ => rfl) ?_
  refine yi_D_gi (v := ld 3) rfl rfl (Nat.ble_eq_true_of_le (by omega)) hW.2.2.2.1.2.2.2.1 (fun _ => ?_)
  refine yi_D_callv rfl (p_takeName_z (p := q + 3) (lo := 8) (hi := 12) (by omega) ⟨hlb.2.2.2.1.1, by omega, by omega⟩ hW f4 A5 (by omega) hW.2.2.2.2.2.2.2.1.2.2) ?_
  rintro _ (⟨k13, b14, I15, L16, rfl, G17, f18, A19⟩ | ⟨k22, z23, I24, L25, rfl, G26, e27⟩ | ⟨k31, z32, I33, L34, rfl, G35, e36⟩)
  · have W20 := cs_W_t hW (cs_G_F G17)
    have F21 := cs_F_t F12 (cs_G_F G17)
    show yi_D zi_Ms d zi_m265 k (18, [(0, .inr (.inr (some 11))), (1, .inr (.inr (some q)))], [.inl (nm (V 0) - 8), .inr (.inr (some 11))], (I15, L16, R3, Y), 0, 0) _
    refine yi_D_pi rfl (fun _ => ?_)
    generalize w41 : yi_u I15 11 4 (nm (V 0) - 8) = I40
    refine yi_D_run 2 (23, [(0, .inr (.inr (some 11))), (1, .inr (.inr (some q)))], [.inr (.inr (some 11)), .inr (.inr (some q))], (I40, L16, R3, Y), 0, 0) (fun _ => rfl) ?_
    have hE42 : cs_E I15 I40 := fun p k hp0 hp1 => by rw [← w41, yi_u_ne _ _ (by omega)]
    have hW43 := cs_W_t W20 (cs_E_F (L := L16) hE42)
    have hF44 := cs_F_t F21 (cs_E_F (L := L16) hE42)
    have hf45 : I40 11 11 = 0 := (hE42 11 11 (by omega) (by omega)).trans f18
    have hA46 := cs_A_e A19 hE42
    have hk47 : I40 11 3 = _ := (by rw [← w41, yi_u_ne _ _ (by omega)] : I40 11 3 = I15 11 3).trans ((G17.1 11 3 (by omega)).trans z39)
    have hk48 : I40 11 5 = _ := (by rw [← w41, yi_u_ne _ _ (by omega)] : I40 11 5 = I15 11 5).trans ((G17.1 11 5 (by omega)).trans z510)
    have hk49 : I40 11 7 = _ := (by rw [← w41, yi_u_ne _ _ (by omega)] : I40 11 7 = I15 11 7).trans ((G17.1 11 7 (by omega)).trans z711)
    have hk50 : I40 11 4 = _ := (by rw [← w41]; exact yi_u_eq .. : I40 11 4 = nm (V 0) - 8)
    refine yi_D_gi (v := nm (V 0) - 8) rfl rfl rfl hk50 (fun _ => ?_)
    have hpl := (hW43.2.2.2.2.2.2.2.1.2.2.2.2 (V 0) (by omega) (by omega)).1
    refine yi_D_callv rfl (p_kindOfX hW43 ⟨by omega, by omega⟩) ?_
    rintro _ ⟨z51, rfl, h52⟩
    show yi_D zi_Ms d zi_m265 k (29, [(0, .inr (.inr (some 11))), (1, .inr (.inr (some q)))], [.inl z51], (I40, L16, R3, Y), 0, 0) _
    refine yi_D_run 4 (33, [(2, .inl z51), (0, .inr (.inr (some 11))), (1, .inr (.inr (some q)))], [.inl 1, .inl z51, .inr (.inr (some 11))], (I40, L16, R3, Y), 0, 0) (fun _ => rfl) ?_
    by_cases h53 : z51 = 1
    · refine yi_D_if2 false rfl (yi_ne_f h53) ?_
      refine yi_D_run 2 (41, [(2, .inl z51), (0, .inr (.inr (some 11))), (1, .inr (.inr (some q)))], [.inl 1, .inr (.inr (some 11))], (I40, L16, R3, Y), 0, 0) (fun _ => rfl) ?_
      refine yi_D_pi rfl (fun _ => ?_)
      generalize w55 : yi_u I40 11 7 1 = I54
      refine yi_D_run 2 (46, [(2, .inl z51), (0, .inr (.inr (some 11))), (1, .inr (.inr (some q)))], [.inl 0, .inr (.inr (some 11))], (I54, L16, R3, Y), 0, 0) (fun _ => rfl) ?_
      have hE56 : cs_E I40 I54 := fun p k hp0 hp1 => by rw [← w55, yi_u_ne _ _ (by omega)]
      have hW57 := cs_W_t hW43 (cs_E_F (L := L16) hE56)
      have hF58 := cs_F_t hF44 (cs_E_F (L := L16) hE56)
      have hf59 : I54 11 11 = 0 := (hE56 11 11 (by omega) (by omega)).trans hf45
      have hA60 := cs_A_e hA46 hE56
      have hk61 : I54 11 3 = _ := (by rw [← w55, yi_u_ne _ _ (by omega)] : I54 11 3 = I40 11 3).trans hk47
      have hk62 : I54 11 4 = _ := (by rw [← w55, yi_u_ne _ _ (by omega)] : I54 11 4 = I40 11 4).trans hk50
      have hk63 : I54 11 5 = _ := (by rw [← w55, yi_u_ne _ _ (by omega)] : I54 11 5 = I40 11 5).trans hk48
      have hk64 : I54 11 7 = _ := (by rw [← w55]; exact yi_u_eq .. : I54 11 7 = 1)
      have hvg : I54 11 7 = wvg z51 := by rw [hk64]; unfold wvg; first | (rw [if_pos (by omega)]; done) | (rw [if_neg (by omega)]; done)
      refine yi_D_callv rfl (p_rfC hW57 hf59 hA60 hda hk61 hk63 hvg hft1 (by omega)) ?_
      rintro _ (⟨I65, L66, a67, cs68, rfl, F69, h470, sp71, f72, A73, cc74, ll75⟩ | ⟨I79, L80, g81, rfl, F82, h483, sp84, n85, f86⟩)
      · have W76 := cs_W_t hW57 F69
        have G77 := cs_F_t hF58 F69
        have le78 := A73.2.1
        show yi_D zi_Ms d zi_m265 k (49, [(2, .inl z51), (0, .inr (.inr (some 11))), (1, .inr (.inr (some q)))], [], (I65, L66, R3, Y), 0, 0) _
        refine yi_D_run 2 (51, [(2, .inl z51), (0, .inr (.inr (some 11))), (1, .inr (.inr (some q)))], [.inl 2, .inl z51], (I65, L66, R3, Y), 0, 0) (fun _ => rfl) ?_
        have h90 : ¬ (z51 = 2) := by omega
        refine yi_D_if2 true rfl (yi_ne_t h90) ?_
        refine yi_D_run 2 (62, [(2, .inl z51), (0, .inr (.inr (some 11))), (1, .inr (.inr (some q)))], [.inl 59, .inr (.inr (some 11))], (I65, L66, R3, Y), 0, 0) (fun _ => rfl) ?_
        refine yi_D_callv rfl (p_takeKind_z (by omega) W76 f72 A73) ?_
        rintro _ (⟨k91, I92, L93, rfl, G94, f95, A96⟩ | ⟨k99, I100, L101, rfl, G102, f103⟩)
        · have W97 := cs_W_t W76 (cs_G_F G94)
          have F98 := cs_F_t G77 (cs_G_F G94)
          show yi_D zi_Ms d zi_m265 k (65, [(2, .inl z51), (0, .inr (.inr (some 11))), (1, .inr (.inr (some q)))], [], (I92, L93, R3, Y), 0, 0) _
          refine yi_D_run 2 (67, [(2, .inl z51), (0, .inr (.inr (some 11))), (1, .inr (.inr (some q)))], [.inl 0, .inr (.inr (some 11))], (I92, L93, R3, Y), 0, 0) (fun _ => rfl) ?_
          refine yi_D_callv rfl (p_takeKind_g W97 f95 A96) ?_
          rintro _ (⟨k107, I108, L109, rfl, G110, f111⟩ | ⟨k113, I114, L115, rfl, G116, f117⟩)
          · have F112 := cs_F_t F98 (cs_G_F G110)
            show yi_D zi_Ms d zi_m265 k (70, [(2, .inl z51), (0, .inr (.inr (some 11))), (1, .inr (.inr (some q)))], [], (I108, L109, R3, Y), 0, 0) _
            refine yi_D_run 1 (71, [(2, .inl z51), (0, .inr (.inr (some 11))), (1, .inr (.inr (some q)))], [.inr (.inr (some 11))], (I108, L109, R3, Y), 0, 0) (fun _ => rfl) ?_
            refine yi_D_gi (v := I108 11 11) rfl rfl rfl rfl (fun _ => ?_)
            refine yi_D_reti rfl ?_
            have hsf : sp_R K P V (3, 1, 0, [10, 22], ld, nm, []) (.inr (I108 11 11)) := by
              rw [f111]
              exact sp_R_s sp71 (by rw [sp_s7, if_neg (by omega), if_neg (by omega)])
            exact ⟨_, _, _, _, rfl, Or.inr (Or.inr ⟨k13, b14, hsf⟩), ⟨fun p k h1 h2 => F112.1 p k h1 h2, fun p k h => F112.2 p k h, fR8⟩, fun _ => ⟨_, _, ⟨sp71, by omega, by assumption⟩, ⟨k13, b14⟩, ((G110.1 11 4 (by omega)).trans (G94.1 11 4 (by omega))).trans (h470.trans hk62), h52 ▸ say_0 cc74 (by omega) ((G110.1 11 3 (by omega)).trans (G94.1 11 3 (by omega))) ((G110.1 11 5 (by omega)).trans (G94.1 11 5 (by omega))) (fun k => ((G110.1 19 k (by omega)).trans (G94.1 19 k (by omega)))), by omega⟩⟩
          · have F118 := cs_F_t F98 (cs_G_F G116)
            have ne119 : ¬ I114 11 11 = 0 := by rw [f117]; exact sp_f_ne W97 A96.2.1 (by omega)
            show yi_D zi_Ms d zi_m265 k (70, [(2, .inl z51), (0, .inr (.inr (some 11))), (1, .inr (.inr (some q)))], [], (I114, L115, R3, Y), 0, 0) _
            refine yi_D_run 1 (71, [(2, .inl z51), (0, .inr (.inr (some 11))), (1, .inr (.inr (some q)))], [.inr (.inr (some 11))], (I114, L115, R3, Y), 0, 0) (fun _ => rfl) ?_
            refine yi_D_gi (v := I114 11 11) rfl rfl rfl rfl (fun _ => ?_)
            refine yi_D_reti rfl ?_
            have hsf : sp_R K P V (3, 1, 0, [10, 22], ld, nm, []) (.inr (I114 11 11)) := by
              rw [f117]
              exact sp_R_s sp71 (by rw [sp_s7, if_neg (by omega), if_pos (by assumption)])
            exact ⟨_, _, _, _, rfl, Or.inr (Or.inr ⟨k13, b14, hsf⟩), ⟨fun p k h1 h2 => F118.1 p k h1 h2, fun p k h => F118.2 p k h, fR8⟩, fun h0 => absurd h0 ne119⟩
        · have W104 := cs_W_t W76 (cs_G_F G102)
          have F105 := cs_F_t G77 (cs_G_F G102)
          have nz106 : ¬ I100 11 11 = 0 := by rw [f103]; exact sp_f_ne W76 A73.2.1 (by omega)
          show yi_D zi_Ms d zi_m265 k (65, [(2, .inl z51), (0, .inr (.inr (some 11))), (1, .inr (.inr (some q)))], [], (I100, L101, R3, Y), 0, 0) _
          refine yi_D_run 2 (67, [(2, .inl z51), (0, .inr (.inr (some 11))), (1, .inr (.inr (some q)))], [.inl 0, .inr (.inr (some 11))], (I100, L101, R3, Y), 0, 0) (fun _ => rfl) ?_
          refine yi_D_callv rfl (p_takeKind_f W104 nz106) ?_
          rintro _ rfl
          show yi_D zi_Ms d zi_m265 k (70, [(2, .inl z51), (0, .inr (.inr (some 11))), (1, .inr (.inr (some q)))], [], (I100, L101, R3, Y), 0, 0) _
          refine yi_D_run 1 (71, [(2, .inl z51), (0, .inr (.inr (some 11))), (1, .inr (.inr (some q)))], [.inr (.inr (some 11))], (I100, L101, R3, Y), 0, 0) (fun _ => rfl) ?_
          refine yi_D_gi (v := I100 11 11) rfl rfl rfl rfl (fun _ => ?_)
          refine yi_D_reti rfl ?_
          have hsf : sp_R K P V (3, 1, 0, [10, 22], ld, nm, []) (.inr (I100 11 11)) := by
            rw [f103]
            exact sp_R_s sp71 (by rw [sp_s7, if_pos (by assumption)])
          exact ⟨_, _, _, _, rfl, Or.inr (Or.inr ⟨k13, b14, hsf⟩), ⟨fun p k h1 h2 => F105.1 p k h1 h2, fun p k h => F105.2 p k h, fR8⟩, fun h0 => absurd h0 nz106⟩
      · have W87 := cs_W_t hW57 F82
        have G88 := cs_F_t hF58 F82
        have nz89 : ¬ I79 11 11 = 0 := by rw [f86]; exact n85
        show yi_D zi_Ms d zi_m265 k (49, [(2, .inl z51), (0, .inr (.inr (some 11))), (1, .inr (.inr (some q)))], [], (I79, L80, R3, Y), 0, 0) _
        refine yi_D_run 2 (51, [(2, .inl z51), (0, .inr (.inr (some 11))), (1, .inr (.inr (some q)))], [.inl 2, .inl z51], (I79, L80, R3, Y), 0, 0) (fun _ => rfl) ?_
        have h120 : ¬ (z51 = 2) := by omega
        refine yi_D_if2 true rfl (yi_ne_t h120) ?_
        refine yi_D_run 2 (62, [(2, .inl z51), (0, .inr (.inr (some 11))), (1, .inr (.inr (some q)))], [.inl 59, .inr (.inr (some 11))], (I79, L80, R3, Y), 0, 0) (fun _ => rfl) ?_
        refine yi_D_callv rfl (p_takeKind_f W87 nz89) ?_
        rintro _ rfl
        show yi_D zi_Ms d zi_m265 k (65, [(2, .inl z51), (0, .inr (.inr (some 11))), (1, .inr (.inr (some q)))], [], (I79, L80, R3, Y), 0, 0) _
        refine yi_D_run 2 (67, [(2, .inl z51), (0, .inr (.inr (some 11))), (1, .inr (.inr (some q)))], [.inl 0, .inr (.inr (some 11))], (I79, L80, R3, Y), 0, 0) (fun _ => rfl) ?_
        refine yi_D_callv rfl (p_takeKind_f W87 nz89) ?_
        rintro _ rfl
        show yi_D zi_Ms d zi_m265 k (70, [(2, .inl z51), (0, .inr (.inr (some 11))), (1, .inr (.inr (some q)))], [], (I79, L80, R3, Y), 0, 0) _
        refine yi_D_run 1 (71, [(2, .inl z51), (0, .inr (.inr (some 11))), (1, .inr (.inr (some q)))], [.inr (.inr (some 11))], (I79, L80, R3, Y), 0, 0) (fun _ => rfl) ?_
        refine yi_D_gi (v := I79 11 11) rfl rfl rfl rfl (fun _ => ?_)
        refine yi_D_reti rfl ?_
        have hsf : sp_R K P V (3, 1, 0, [10, 22], ld, nm, []) (.inr (I79 11 11)) := by
          rw [f86]
          exact sp84
        exact ⟨_, _, _, _, rfl, Or.inr (Or.inr ⟨k13, b14, hsf⟩), ⟨fun p k h1 h2 => G88.1 p k h1 h2, fun p k h => G88.2 p k h, fR8⟩, fun h0 => absurd h0 nz89⟩
    · refine yi_D_if2 true rfl (yi_ne_t h53) ?_
      refine yi_D_run 1 (41, [(2, .inl z51), (0, .inr (.inr (some 11))), (1, .inr (.inr (some q)))], [.inl 0, .inr (.inr (some 11))], (I40, L16, R3, Y), 0, 0) (fun _ => rfl) ?_
      refine yi_D_pi rfl (fun _ => ?_)
      generalize w122 : yi_u I40 11 7 0 = I121
      refine yi_D_run 2 (46, [(2, .inl z51), (0, .inr (.inr (some 11))), (1, .inr (.inr (some q)))], [.inl 0, .inr (.inr (some 11))], (I121, L16, R3, Y), 0, 0) (fun _ => rfl) ?_
      have hE123 : cs_E I40 I121 := fun p k hp0 hp1 => by rw [← w122, yi_u_ne _ _ (by omega)]
      have hW124 := cs_W_t hW43 (cs_E_F (L := L16) hE123)
      have hF125 := cs_F_t hF44 (cs_E_F (L := L16) hE123)
      have hf126 : I121 11 11 = 0 := (hE123 11 11 (by omega) (by omega)).trans hf45
      have hA127 := cs_A_e hA46 hE123
      have hk128 : I121 11 3 = _ := (by rw [← w122, yi_u_ne _ _ (by omega)] : I121 11 3 = I40 11 3).trans hk47
      have hk129 : I121 11 4 = _ := (by rw [← w122, yi_u_ne _ _ (by omega)] : I121 11 4 = I40 11 4).trans hk50
      have hk130 : I121 11 5 = _ := (by rw [← w122, yi_u_ne _ _ (by omega)] : I121 11 5 = I40 11 5).trans hk48
      have hk131 : I121 11 7 = _ := (by rw [← w122]; exact yi_u_eq .. : I121 11 7 = 0)
      have hvg : I121 11 7 = wvg z51 := by rw [hk131]; unfold wvg; first | (rw [if_pos (by omega)]; done) | (rw [if_neg (by omega)]; done)
      refine yi_D_callv rfl (p_rfC hW124 hf126 hA127 hda hk128 hk130 hvg hft1 (by omega)) ?_
      rintro _ (⟨I132, L133, a134, cs135, rfl, F136, h4137, sp138, f139, A140, cc141, ll142⟩ | ⟨I146, L147, g148, rfl, F149, h4150, sp151, n152, f153⟩)
      · have W143 := cs_W_t hW124 F136
        have G144 := cs_F_t hF125 F136
        have le145 := A140.2.1
        show yi_D zi_Ms d zi_m265 k (49, [(2, .inl z51), (0, .inr (.inr (some 11))), (1, .inr (.inr (some q)))], [], (I132, L133, R3, Y), 0, 0) _
        refine yi_D_run 2 (51, [(2, .inl z51), (0, .inr (.inr (some 11))), (1, .inr (.inr (some q)))], [.inl 2, .inl z51], (I132, L133, R3, Y), 0, 0) (fun _ => rfl) ?_
        by_cases h157 : z51 = 2
        · refine yi_D_if2 false rfl (yi_ne_f h157) ?_
          refine yi_D_run 2 (56, [(2, .inl z51), (0, .inr (.inr (some 11))), (1, .inr (.inr (some q)))], [.inl 1, .inr (.inr (some 11))], (I132, L133, R3, Y), 0, 0) (fun _ => rfl) ?_
          refine yi_D_callv rfl (p_emitC (u := cs135.length) W143 f139 (by rw [cc141.2.1]; show ((0 + (cs135.length - 0) : Nat) : Int) = _; rw [Nat.sub_zero, Nat.zero_add]) (by omega)) ?_
          rintro _ ⟨I158, rfl, E159⟩
          have G160 := cc_E_E E159
          have W161 := cs_W_t W143 (cs_E_F (L := L133) G160)
          have F162 := cs_F_t G144 (cs_E_F (L := L133) G160)
          have f163 : I158 11 11 = 0 := (G160 11 11 (by omega) (by omega)).trans f139
          have A164 := cs_A_e A140 G160
          show yi_D zi_Ms d zi_m265 k (59, [(2, .inl z51), (0, .inr (.inr (some 11))), (1, .inr (.inr (some q)))], [], (I158, L133, R3, Y), 0, 0) _
          refine yi_D_run 2 (62, [(2, .inl z51), (0, .inr (.inr (some 11))), (1, .inr (.inr (some q)))], [.inl 59, .inr (.inr (some 11))], (I158, L133, R3, Y), 0, 0) (fun _ => rfl) ?_
          refine yi_D_callv rfl (p_takeKind_z (by omega) W161 f163 A164) ?_
          rintro _ (⟨k165, I166, L167, rfl, G168, f169, A170⟩ | ⟨k173, I174, L175, rfl, G176, f177⟩)
          · have W171 := cs_W_t W161 (cs_G_F G168)
            have F172 := cs_F_t F162 (cs_G_F G168)
            show yi_D zi_Ms d zi_m265 k (65, [(2, .inl z51), (0, .inr (.inr (some 11))), (1, .inr (.inr (some q)))], [], (I166, L167, R3, Y), 0, 0) _
            refine yi_D_run 2 (67, [(2, .inl z51), (0, .inr (.inr (some 11))), (1, .inr (.inr (some q)))], [.inl 0, .inr (.inr (some 11))], (I166, L167, R3, Y), 0, 0) (fun _ => rfl) ?_
            refine yi_D_callv rfl (p_takeKind_g W171 f169 A170) ?_
            rintro _ (⟨k181, I182, L183, rfl, G184, f185⟩ | ⟨k187, I188, L189, rfl, G190, f191⟩)
            · have F186 := cs_F_t F172 (cs_G_F G184)
              show yi_D zi_Ms d zi_m265 k (70, [(2, .inl z51), (0, .inr (.inr (some 11))), (1, .inr (.inr (some q)))], [], (I182, L183, R3, Y), 0, 0) _
              refine yi_D_run 1 (71, [(2, .inl z51), (0, .inr (.inr (some 11))), (1, .inr (.inr (some q)))], [.inr (.inr (some 11))], (I182, L183, R3, Y), 0, 0) (fun _ => rfl) ?_
              refine yi_D_gi (v := I182 11 11) rfl rfl rfl rfl (fun _ => ?_)
              refine yi_D_reti rfl ?_
              have hsf : sp_R K P V (3, 1, 0, [10, 22], ld, nm, []) (.inr (I182 11 11)) := by
                rw [f185]
                exact sp_R_s sp138 (by rw [sp_s7, if_neg (by omega), if_neg (by omega)])
              exact ⟨_, _, _, _, rfl, Or.inr (Or.inr ⟨k13, b14, hsf⟩), ⟨fun p k h1 h2 => F186.1 p k h1 h2, fun p k h => F186.2 p k h, fR8⟩, fun _ => ⟨_, _, ⟨sp138, by omega, by assumption⟩, ⟨k13, b14⟩, ((G184.1 11 4 (by omega)).trans (G168.1 11 4 (by omega))).trans ((E159.2.2 11 4 (by omega) (by omega)).trans (h4137.trans hk129)), h52 ▸ say_1 cc141 (by omega) E159 ((G184.1 11 3 (by omega)).trans (G168.1 11 3 (by omega))) ((G184.1 11 5 (by omega)).trans (G168.1 11 5 (by omega))) (fun k => ((G184.1 19 k (by omega)).trans (G168.1 19 k (by omega)))), by omega⟩⟩
            · have F192 := cs_F_t F172 (cs_G_F G190)
              have ne193 : ¬ I188 11 11 = 0 := by rw [f191]; exact sp_f_ne W171 A170.2.1 (by omega)
              show yi_D zi_Ms d zi_m265 k (70, [(2, .inl z51), (0, .inr (.inr (some 11))), (1, .inr (.inr (some q)))], [], (I188, L189, R3, Y), 0, 0) _
              refine yi_D_run 1 (71, [(2, .inl z51), (0, .inr (.inr (some 11))), (1, .inr (.inr (some q)))], [.inr (.inr (some 11))], (I188, L189, R3, Y), 0, 0) (fun _ => rfl) ?_
              refine yi_D_gi (v := I188 11 11) rfl rfl rfl rfl (fun _ => ?_)
              refine yi_D_reti rfl ?_
              have hsf : sp_R K P V (3, 1, 0, [10, 22], ld, nm, []) (.inr (I188 11 11)) := by
                rw [f191]
                exact sp_R_s sp138 (by rw [sp_s7, if_neg (by omega), if_pos (by assumption)])
              exact ⟨_, _, _, _, rfl, Or.inr (Or.inr ⟨k13, b14, hsf⟩), ⟨fun p k h1 h2 => F192.1 p k h1 h2, fun p k h => F192.2 p k h, fR8⟩, fun h0 => absurd h0 ne193⟩
          · have W178 := cs_W_t W161 (cs_G_F G176)
            have F179 := cs_F_t F162 (cs_G_F G176)
            have nz180 : ¬ I174 11 11 = 0 := by rw [f177]; exact sp_f_ne W161 A164.2.1 (by omega)
            show yi_D zi_Ms d zi_m265 k (65, [(2, .inl z51), (0, .inr (.inr (some 11))), (1, .inr (.inr (some q)))], [], (I174, L175, R3, Y), 0, 0) _
            refine yi_D_run 2 (67, [(2, .inl z51), (0, .inr (.inr (some 11))), (1, .inr (.inr (some q)))], [.inl 0, .inr (.inr (some 11))], (I174, L175, R3, Y), 0, 0) (fun _ => rfl) ?_
            refine yi_D_callv rfl (p_takeKind_f W178 nz180) ?_
            rintro _ rfl
            show yi_D zi_Ms d zi_m265 k (70, [(2, .inl z51), (0, .inr (.inr (some 11))), (1, .inr (.inr (some q)))], [], (I174, L175, R3, Y), 0, 0) _
            refine yi_D_run 1 (71, [(2, .inl z51), (0, .inr (.inr (some 11))), (1, .inr (.inr (some q)))], [.inr (.inr (some 11))], (I174, L175, R3, Y), 0, 0) (fun _ => rfl) ?_
            refine yi_D_gi (v := I174 11 11) rfl rfl rfl rfl (fun _ => ?_)
            refine yi_D_reti rfl ?_
            have hsf : sp_R K P V (3, 1, 0, [10, 22], ld, nm, []) (.inr (I174 11 11)) := by
              rw [f177]
              exact sp_R_s sp138 (by rw [sp_s7, if_pos (by assumption)])
            exact ⟨_, _, _, _, rfl, Or.inr (Or.inr ⟨k13, b14, hsf⟩), ⟨fun p k h1 h2 => F179.1 p k h1 h2, fun p k h => F179.2 p k h, fR8⟩, fun h0 => absurd h0 nz180⟩
        · refine yi_D_if2 true rfl (yi_ne_t h157) ?_
          refine yi_D_run 2 (62, [(2, .inl z51), (0, .inr (.inr (some 11))), (1, .inr (.inr (some q)))], [.inl 59, .inr (.inr (some 11))], (I132, L133, R3, Y), 0, 0) (fun _ => rfl) ?_
          refine yi_D_callv rfl (p_takeKind_z (by omega) W143 f139 A140) ?_
          rintro _ (⟨k194, I195, L196, rfl, G197, f198, A199⟩ | ⟨k202, I203, L204, rfl, G205, f206⟩)
          · have W200 := cs_W_t W143 (cs_G_F G197)
            have F201 := cs_F_t G144 (cs_G_F G197)
            show yi_D zi_Ms d zi_m265 k (65, [(2, .inl z51), (0, .inr (.inr (some 11))), (1, .inr (.inr (some q)))], [], (I195, L196, R3, Y), 0, 0) _
            refine yi_D_run 2 (67, [(2, .inl z51), (0, .inr (.inr (some 11))), (1, .inr (.inr (some q)))], [.inl 0, .inr (.inr (some 11))], (I195, L196, R3, Y), 0, 0) (fun _ => rfl) ?_
            refine yi_D_callv rfl (p_takeKind_g W200 f198 A199) ?_
            rintro _ (⟨k210, I211, L212, rfl, G213, f214⟩ | ⟨k216, I217, L218, rfl, G219, f220⟩)
            · have F215 := cs_F_t F201 (cs_G_F G213)
              show yi_D zi_Ms d zi_m265 k (70, [(2, .inl z51), (0, .inr (.inr (some 11))), (1, .inr (.inr (some q)))], [], (I211, L212, R3, Y), 0, 0) _
              refine yi_D_run 1 (71, [(2, .inl z51), (0, .inr (.inr (some 11))), (1, .inr (.inr (some q)))], [.inr (.inr (some 11))], (I211, L212, R3, Y), 0, 0) (fun _ => rfl) ?_
              refine yi_D_gi (v := I211 11 11) rfl rfl rfl rfl (fun _ => ?_)
              refine yi_D_reti rfl ?_
              have hsf : sp_R K P V (3, 1, 0, [10, 22], ld, nm, []) (.inr (I211 11 11)) := by
                rw [f214]
                exact sp_R_s sp138 (by rw [sp_s7, if_neg (by omega), if_neg (by omega)])
              exact ⟨_, _, _, _, rfl, Or.inr (Or.inr ⟨k13, b14, hsf⟩), ⟨fun p k h1 h2 => F215.1 p k h1 h2, fun p k h => F215.2 p k h, fR8⟩, fun _ => ⟨_, _, ⟨sp138, by omega, by assumption⟩, ⟨k13, b14⟩, ((G213.1 11 4 (by omega)).trans (G197.1 11 4 (by omega))).trans (h4137.trans hk129), h52 ▸ say_0 cc141 (by omega) ((G213.1 11 3 (by omega)).trans (G197.1 11 3 (by omega))) ((G213.1 11 5 (by omega)).trans (G197.1 11 5 (by omega))) (fun k => ((G213.1 19 k (by omega)).trans (G197.1 19 k (by omega)))), by omega⟩⟩
            · have F221 := cs_F_t F201 (cs_G_F G219)
              have ne222 : ¬ I217 11 11 = 0 := by rw [f220]; exact sp_f_ne W200 A199.2.1 (by omega)
              show yi_D zi_Ms d zi_m265 k (70, [(2, .inl z51), (0, .inr (.inr (some 11))), (1, .inr (.inr (some q)))], [], (I217, L218, R3, Y), 0, 0) _
              refine yi_D_run 1 (71, [(2, .inl z51), (0, .inr (.inr (some 11))), (1, .inr (.inr (some q)))], [.inr (.inr (some 11))], (I217, L218, R3, Y), 0, 0) (fun _ => rfl) ?_
              refine yi_D_gi (v := I217 11 11) rfl rfl rfl rfl (fun _ => ?_)
              refine yi_D_reti rfl ?_
              have hsf : sp_R K P V (3, 1, 0, [10, 22], ld, nm, []) (.inr (I217 11 11)) := by
                rw [f220]
                exact sp_R_s sp138 (by rw [sp_s7, if_neg (by omega), if_pos (by assumption)])
              exact ⟨_, _, _, _, rfl, Or.inr (Or.inr ⟨k13, b14, hsf⟩), ⟨fun p k h1 h2 => F221.1 p k h1 h2, fun p k h => F221.2 p k h, fR8⟩, fun h0 => absurd h0 ne222⟩
          · have W207 := cs_W_t W143 (cs_G_F G205)
            have F208 := cs_F_t G144 (cs_G_F G205)
            have nz209 : ¬ I203 11 11 = 0 := by rw [f206]; exact sp_f_ne W143 A140.2.1 (by omega)
            show yi_D zi_Ms d zi_m265 k (65, [(2, .inl z51), (0, .inr (.inr (some 11))), (1, .inr (.inr (some q)))], [], (I203, L204, R3, Y), 0, 0) _
            refine yi_D_run 2 (67, [(2, .inl z51), (0, .inr (.inr (some 11))), (1, .inr (.inr (some q)))], [.inl 0, .inr (.inr (some 11))], (I203, L204, R3, Y), 0, 0) (fun _ => rfl) ?_
            refine yi_D_callv rfl (p_takeKind_f W207 nz209) ?_
            rintro _ rfl
            show yi_D zi_Ms d zi_m265 k (70, [(2, .inl z51), (0, .inr (.inr (some 11))), (1, .inr (.inr (some q)))], [], (I203, L204, R3, Y), 0, 0) _
            refine yi_D_run 1 (71, [(2, .inl z51), (0, .inr (.inr (some 11))), (1, .inr (.inr (some q)))], [.inr (.inr (some 11))], (I203, L204, R3, Y), 0, 0) (fun _ => rfl) ?_
            refine yi_D_gi (v := I203 11 11) rfl rfl rfl rfl (fun _ => ?_)
            refine yi_D_reti rfl ?_
            have hsf : sp_R K P V (3, 1, 0, [10, 22], ld, nm, []) (.inr (I203 11 11)) := by
              rw [f206]
              exact sp_R_s sp138 (by rw [sp_s7, if_pos (by assumption)])
            exact ⟨_, _, _, _, rfl, Or.inr (Or.inr ⟨k13, b14, hsf⟩), ⟨fun p k h1 h2 => F208.1 p k h1 h2, fun p k h => F208.2 p k h, fR8⟩, fun h0 => absurd h0 nz209⟩
      · have W154 := cs_W_t hW124 F149
        have G155 := cs_F_t hF125 F149
        have nz156 : ¬ I146 11 11 = 0 := by rw [f153]; exact n152
        show yi_D zi_Ms d zi_m265 k (49, [(2, .inl z51), (0, .inr (.inr (some 11))), (1, .inr (.inr (some q)))], [], (I146, L147, R3, Y), 0, 0) _
        refine yi_D_run 2 (51, [(2, .inl z51), (0, .inr (.inr (some 11))), (1, .inr (.inr (some q)))], [.inl 2, .inl z51], (I146, L147, R3, Y), 0, 0) (fun _ => rfl) ?_
        by_cases h223 : z51 = 2
        · refine yi_D_if2 false rfl (yi_ne_f h223) ?_
          refine yi_D_run 2 (56, [(2, .inl z51), (0, .inr (.inr (some 11))), (1, .inr (.inr (some q)))], [.inl 1, .inr (.inr (some 11))], (I146, L147, R3, Y), 0, 0) (fun _ => rfl) ?_
          refine yi_D_callv rfl (p_emit W154) ?_
          rintro _ ⟨I224, rfl, E225⟩
          have W226 := cs_W_t W154 (cs_E_F (L := L147) E225)
          have F227 := cs_F_t G155 (cs_E_F (L := L147) E225)
          have nz228 : ¬ I224 11 11 = 0 := by rw [E225 11 11 (by omega) (by omega)]; exact nz156
          have e229 : I224 11 11 = _ := (E225 11 11 (by omega) (by omega)).trans f153
          show yi_D zi_Ms d zi_m265 k (59, [(2, .inl z51), (0, .inr (.inr (some 11))), (1, .inr (.inr (some q)))], [], (I224, L147, R3, Y), 0, 0) _
          refine yi_D_run 2 (62, [(2, .inl z51), (0, .inr (.inr (some 11))), (1, .inr (.inr (some q)))], [.inl 59, .inr (.inr (some 11))], (I224, L147, R3, Y), 0, 0) (fun _ => rfl) ?_
          refine yi_D_callv rfl (p_takeKind_f W226 nz228) ?_
          rintro _ rfl
          show yi_D zi_Ms d zi_m265 k (65, [(2, .inl z51), (0, .inr (.inr (some 11))), (1, .inr (.inr (some q)))], [], (I224, L147, R3, Y), 0, 0) _
          refine yi_D_run 2 (67, [(2, .inl z51), (0, .inr (.inr (some 11))), (1, .inr (.inr (some q)))], [.inl 0, .inr (.inr (some 11))], (I224, L147, R3, Y), 0, 0) (fun _ => rfl) ?_
          refine yi_D_callv rfl (p_takeKind_f W226 nz228) ?_
          rintro _ rfl
          show yi_D zi_Ms d zi_m265 k (70, [(2, .inl z51), (0, .inr (.inr (some 11))), (1, .inr (.inr (some q)))], [], (I224, L147, R3, Y), 0, 0) _
          refine yi_D_run 1 (71, [(2, .inl z51), (0, .inr (.inr (some 11))), (1, .inr (.inr (some q)))], [.inr (.inr (some 11))], (I224, L147, R3, Y), 0, 0) (fun _ => rfl) ?_
          refine yi_D_gi (v := I224 11 11) rfl rfl rfl rfl (fun _ => ?_)
          refine yi_D_reti rfl ?_
          have hsf : sp_R K P V (3, 1, 0, [10, 22], ld, nm, []) (.inr (I224 11 11)) := by
            rw [e229]
            exact sp151
          exact ⟨_, _, _, _, rfl, Or.inr (Or.inr ⟨k13, b14, hsf⟩), ⟨fun p k h1 h2 => F227.1 p k h1 h2, fun p k h => F227.2 p k h, fR8⟩, fun h0 => absurd h0 nz228⟩
        · refine yi_D_if2 true rfl (yi_ne_t h223) ?_
          refine yi_D_run 2 (62, [(2, .inl z51), (0, .inr (.inr (some 11))), (1, .inr (.inr (some q)))], [.inl 59, .inr (.inr (some 11))], (I146, L147, R3, Y), 0, 0) (fun _ => rfl) ?_
          refine yi_D_callv rfl (p_takeKind_f W154 nz156) ?_
          rintro _ rfl
          show yi_D zi_Ms d zi_m265 k (65, [(2, .inl z51), (0, .inr (.inr (some 11))), (1, .inr (.inr (some q)))], [], (I146, L147, R3, Y), 0, 0) _
          refine yi_D_run 2 (67, [(2, .inl z51), (0, .inr (.inr (some 11))), (1, .inr (.inr (some q)))], [.inl 0, .inr (.inr (some 11))], (I146, L147, R3, Y), 0, 0) (fun _ => rfl) ?_
          refine yi_D_callv rfl (p_takeKind_f W154 nz156) ?_
          rintro _ rfl
          show yi_D zi_Ms d zi_m265 k (70, [(2, .inl z51), (0, .inr (.inr (some 11))), (1, .inr (.inr (some q)))], [], (I146, L147, R3, Y), 0, 0) _
          refine yi_D_run 1 (71, [(2, .inl z51), (0, .inr (.inr (some 11))), (1, .inr (.inr (some q)))], [.inr (.inr (some 11))], (I146, L147, R3, Y), 0, 0) (fun _ => rfl) ?_
          refine yi_D_gi (v := I146 11 11) rfl rfl rfl rfl (fun _ => ?_)
          refine yi_D_reti rfl ?_
          have hsf : sp_R K P V (3, 1, 0, [10, 22], ld, nm, []) (.inr (I146 11 11)) := by
            rw [f153]
            exact sp151
          exact ⟨_, _, _, _, rfl, Or.inr (Or.inr ⟨k13, b14, hsf⟩), ⟨fun p k h1 h2 => G155.1 p k h1 h2, fun p k h => G155.2 p k h, fR8⟩, fun h0 => absurd h0 nz156⟩
  · have W28 := cs_W_t hW (cs_G_F G26)
    have F29 := cs_F_t F12 (cs_G_F G26)
    have nz30 : ¬ I24 11 11 = 0 := by rw [e27]; exact sp_f_ne hW A5.2.1 (by omega)
    show yi_D zi_Ms d zi_m265 k (18, [(0, .inr (.inr (some 11))), (1, .inr (.inr (some q)))], [.inl z23, .inr (.inr (some 11))], (I24, L25, R3, Y), 0, 0) _
    refine yi_D_pi rfl (fun _ => ?_)
    generalize w231 : yi_u I24 11 4 z23 = I230
    refine yi_D_run 2 (23, [(0, .inr (.inr (some 11))), (1, .inr (.inr (some q)))], [.inr (.inr (some 11)), .inr (.inr (some q))], (I230, L25, R3, Y), 0, 0) (fun _ => rfl) ?_
    have hE232 : cs_E I24 I230 := fun p k hp0 hp1 => by rw [← w231, yi_u_ne _ _ (by omega)]
    have hW233 := cs_W_t W28 (cs_E_F (L := L25) hE232)
    have hF234 := cs_F_t F29 (cs_E_F (L := L25) hE232)
    have hf235 : ¬ I230 11 11 = 0 := by rw [hE232 11 11 (by omega) (by omega)]; exact nz30
    have hf235e : I230 11 11 = _ := (hE232 11 11 (by omega) (by omega)).trans e27
    have r236 : I230 11 4 = z23 := by rw [← w231, yi_u_eq]
    refine yi_D_gi (v := z23) rfl rfl rfl r236 (fun _ => ?_)
    refine yi_D_callv rfl (p_kindOf_w hW233) ?_
    rintro _ ⟨z237, rfl⟩
    show yi_D zi_Ms d zi_m265 k (29, [(0, .inr (.inr (some 11))), (1, .inr (.inr (some q)))], [.inl z237], (I230, L25, R3, Y), 0, 0) _
    refine yi_D_run 4 (33, [(2, .inl z237), (0, .inr (.inr (some 11))), (1, .inr (.inr (some q)))], [.inl 1, .inl z237, .inr (.inr (some 11))], (I230, L25, R3, Y), 0, 0) (fun _ => rfl) ?_
    by_cases h238 : z237 = 1
    · refine yi_D_if2 false rfl (yi_ne_f h238) ?_
      refine yi_D_run 2 (41, [(2, .inl z237), (0, .inr (.inr (some 11))), (1, .inr (.inr (some q)))], [.inl 1, .inr (.inr (some 11))], (I230, L25, R3, Y), 0, 0) (fun _ => rfl) ?_
      refine yi_D_pi rfl (fun _ => ?_)
      generalize w240 : yi_u I230 11 7 1 = I239
      refine yi_D_run 2 (46, [(2, .inl z237), (0, .inr (.inr (some 11))), (1, .inr (.inr (some q)))], [.inl 0, .inr (.inr (some 11))], (I239, L25, R3, Y), 0, 0) (fun _ => rfl) ?_
      have hE241 : cs_E I230 I239 := fun p k hp0 hp1 => by rw [← w240, yi_u_ne _ _ (by omega)]
      have hW242 := cs_W_t hW233 (cs_E_F (L := L25) hE241)
      have hF243 := cs_F_t hF234 (cs_E_F (L := L25) hE241)
      have hf244 : ¬ I239 11 11 = 0 := by rw [hE241 11 11 (by omega) (by omega)]; exact hf235
      have hf244e : I239 11 11 = _ := (hE241 11 11 (by omega) (by omega)).trans hf235e
      refine yi_D_callv rfl (p_readFormula_f hW242 hf244) ?_
      rintro _ rfl
      show yi_D zi_Ms d zi_m265 k (49, [(2, .inl z237), (0, .inr (.inr (some 11))), (1, .inr (.inr (some q)))], [], (I239, L25, R3, Y), 0, 0) _
      refine yi_D_run 2 (51, [(2, .inl z237), (0, .inr (.inr (some 11))), (1, .inr (.inr (some q)))], [.inl 2, .inl z237], (I239, L25, R3, Y), 0, 0) (fun _ => rfl) ?_
      have h245 : ¬ (z237 = 2) := by omega
      refine yi_D_if2 true rfl (yi_ne_t h245) ?_
      refine yi_D_run 2 (62, [(2, .inl z237), (0, .inr (.inr (some 11))), (1, .inr (.inr (some q)))], [.inl 59, .inr (.inr (some 11))], (I239, L25, R3, Y), 0, 0) (fun _ => rfl) ?_
      refine yi_D_callv rfl (p_takeKind_f hW242 hf244) ?_
      rintro _ rfl
      show yi_D zi_Ms d zi_m265 k (65, [(2, .inl z237), (0, .inr (.inr (some 11))), (1, .inr (.inr (some q)))], [], (I239, L25, R3, Y), 0, 0) _
      refine yi_D_run 2 (67, [(2, .inl z237), (0, .inr (.inr (some 11))), (1, .inr (.inr (some q)))], [.inl 0, .inr (.inr (some 11))], (I239, L25, R3, Y), 0, 0) (fun _ => rfl) ?_
      refine yi_D_callv rfl (p_takeKind_f hW242 hf244) ?_
      rintro _ rfl
      show yi_D zi_Ms d zi_m265 k (70, [(2, .inl z237), (0, .inr (.inr (some 11))), (1, .inr (.inr (some q)))], [], (I239, L25, R3, Y), 0, 0) _
      refine yi_D_run 1 (71, [(2, .inl z237), (0, .inr (.inr (some 11))), (1, .inr (.inr (some q)))], [.inr (.inr (some 11))], (I239, L25, R3, Y), 0, 0) (fun _ => rfl) ?_
      have r246 : I239 11 11 = I24 11 11 := by rw [← w240, yi_u_ne _ _ (by omega), ← w231, yi_u_ne _ _ (by omega)]
      refine yi_D_gi (v := I24 11 11) rfl rfl rfl r246 (fun _ => ?_)
      refine yi_D_reti rfl ?_
      exact ⟨_, _, _, _, rfl, Or.inl ⟨k22, e27⟩, ⟨fun p k h1 h2 => hF243.1 p k h1 h2, fun p k h => hF243.2 p k h, fR8⟩, fun h0 => absurd h0 nz30⟩
    · refine yi_D_if2 true rfl (yi_ne_t h238) ?_
      refine yi_D_run 1 (41, [(2, .inl z237), (0, .inr (.inr (some 11))), (1, .inr (.inr (some q)))], [.inl 0, .inr (.inr (some 11))], (I230, L25, R3, Y), 0, 0) (fun _ => rfl) ?_
      refine yi_D_pi rfl (fun _ => ?_)
      generalize w248 : yi_u I230 11 7 0 = I247
      refine yi_D_run 2 (46, [(2, .inl z237), (0, .inr (.inr (some 11))), (1, .inr (.inr (some q)))], [.inl 0, .inr (.inr (some 11))], (I247, L25, R3, Y), 0, 0) (fun _ => rfl) ?_
      have hE249 : cs_E I230 I247 := fun p k hp0 hp1 => by rw [← w248, yi_u_ne _ _ (by omega)]
      have hW250 := cs_W_t hW233 (cs_E_F (L := L25) hE249)
      have hF251 := cs_F_t hF234 (cs_E_F (L := L25) hE249)
      have hf252 : ¬ I247 11 11 = 0 := by rw [hE249 11 11 (by omega) (by omega)]; exact hf235
      have hf252e : I247 11 11 = _ := (hE249 11 11 (by omega) (by omega)).trans hf235e
      refine yi_D_callv rfl (p_readFormula_f hW250 hf252) ?_
      rintro _ rfl
      show yi_D zi_Ms d zi_m265 k (49, [(2, .inl z237), (0, .inr (.inr (some 11))), (1, .inr (.inr (some q)))], [], (I247, L25, R3, Y), 0, 0) _
      refine yi_D_run 2 (51, [(2, .inl z237), (0, .inr (.inr (some 11))), (1, .inr (.inr (some q)))], [.inl 2, .inl z237], (I247, L25, R3, Y), 0, 0) (fun _ => rfl) ?_
      by_cases h253 : z237 = 2
      · refine yi_D_if2 false rfl (yi_ne_f h253) ?_
        refine yi_D_run 2 (56, [(2, .inl z237), (0, .inr (.inr (some 11))), (1, .inr (.inr (some q)))], [.inl 1, .inr (.inr (some 11))], (I247, L25, R3, Y), 0, 0) (fun _ => rfl) ?_
        refine yi_D_callv rfl (p_emit hW250) ?_
        rintro _ ⟨I254, rfl, E255⟩
        have W256 := cs_W_t hW250 (cs_E_F (L := L25) E255)
        have F257 := cs_F_t hF251 (cs_E_F (L := L25) E255)
        have nz258 : ¬ I254 11 11 = 0 := by rw [E255 11 11 (by omega) (by omega)]; exact hf252
        have e259 : I254 11 11 = _ := (E255 11 11 (by omega) (by omega)).trans hf252e
        show yi_D zi_Ms d zi_m265 k (59, [(2, .inl z237), (0, .inr (.inr (some 11))), (1, .inr (.inr (some q)))], [], (I254, L25, R3, Y), 0, 0) _
        refine yi_D_run 2 (62, [(2, .inl z237), (0, .inr (.inr (some 11))), (1, .inr (.inr (some q)))], [.inl 59, .inr (.inr (some 11))], (I254, L25, R3, Y), 0, 0) (fun _ => rfl) ?_
        refine yi_D_callv rfl (p_takeKind_f W256 nz258) ?_
        rintro _ rfl
        show yi_D zi_Ms d zi_m265 k (65, [(2, .inl z237), (0, .inr (.inr (some 11))), (1, .inr (.inr (some q)))], [], (I254, L25, R3, Y), 0, 0) _
        refine yi_D_run 2 (67, [(2, .inl z237), (0, .inr (.inr (some 11))), (1, .inr (.inr (some q)))], [.inl 0, .inr (.inr (some 11))], (I254, L25, R3, Y), 0, 0) (fun _ => rfl) ?_
        refine yi_D_callv rfl (p_takeKind_f W256 nz258) ?_
        rintro _ rfl
        show yi_D zi_Ms d zi_m265 k (70, [(2, .inl z237), (0, .inr (.inr (some 11))), (1, .inr (.inr (some q)))], [], (I254, L25, R3, Y), 0, 0) _
        refine yi_D_run 1 (71, [(2, .inl z237), (0, .inr (.inr (some 11))), (1, .inr (.inr (some q)))], [.inr (.inr (some 11))], (I254, L25, R3, Y), 0, 0) (fun _ => rfl) ?_
        refine yi_D_gi (v := I254 11 11) rfl rfl rfl rfl (fun _ => ?_)
        refine yi_D_reti rfl ?_
        exact ⟨_, _, _, _, rfl, Or.inl ⟨k22, e259⟩, ⟨fun p k h1 h2 => F257.1 p k h1 h2, fun p k h => F257.2 p k h, fR8⟩, fun h0 => absurd h0 nz258⟩
      · refine yi_D_if2 true rfl (yi_ne_t h253) ?_
        refine yi_D_run 2 (62, [(2, .inl z237), (0, .inr (.inr (some 11))), (1, .inr (.inr (some q)))], [.inl 59, .inr (.inr (some 11))], (I247, L25, R3, Y), 0, 0) (fun _ => rfl) ?_
        refine yi_D_callv rfl (p_takeKind_f hW250 hf252) ?_
        rintro _ rfl
        show yi_D zi_Ms d zi_m265 k (65, [(2, .inl z237), (0, .inr (.inr (some 11))), (1, .inr (.inr (some q)))], [], (I247, L25, R3, Y), 0, 0) _
        refine yi_D_run 2 (67, [(2, .inl z237), (0, .inr (.inr (some 11))), (1, .inr (.inr (some q)))], [.inl 0, .inr (.inr (some 11))], (I247, L25, R3, Y), 0, 0) (fun _ => rfl) ?_
        refine yi_D_callv rfl (p_takeKind_f hW250 hf252) ?_
        rintro _ rfl
        show yi_D zi_Ms d zi_m265 k (70, [(2, .inl z237), (0, .inr (.inr (some 11))), (1, .inr (.inr (some q)))], [], (I247, L25, R3, Y), 0, 0) _
        refine yi_D_run 1 (71, [(2, .inl z237), (0, .inr (.inr (some 11))), (1, .inr (.inr (some q)))], [.inr (.inr (some 11))], (I247, L25, R3, Y), 0, 0) (fun _ => rfl) ?_
        have r260 : I247 11 11 = I24 11 11 := by rw [← w248, yi_u_ne _ _ (by omega), ← w231, yi_u_ne _ _ (by omega)]
        refine yi_D_gi (v := I24 11 11) rfl rfl rfl r260 (fun _ => ?_)
        refine yi_D_reti rfl ?_
        exact ⟨_, _, _, _, rfl, Or.inl ⟨k22, e27⟩, ⟨fun p k h1 h2 => hF251.1 p k h1 h2, fun p k h => hF251.2 p k h, fR8⟩, fun h0 => absurd h0 nz30⟩
  · have W37 := cs_W_t hW (cs_G_F G35)
    have F38 := cs_F_t F12 (cs_G_F G35)
    have nz39 : ¬ I33 11 11 = 0 := by rw [e36]; exact sp_f_ne hW A5.2.1 (by omega)
    show yi_D zi_Ms d zi_m265 k (18, [(0, .inr (.inr (some 11))), (1, .inr (.inr (some q)))], [.inl z32, .inr (.inr (some 11))], (I33, L34, R3, Y), 0, 0) _
    refine yi_D_pi rfl (fun _ => ?_)
    generalize w262 : yi_u I33 11 4 z32 = I261
    refine yi_D_run 2 (23, [(0, .inr (.inr (some 11))), (1, .inr (.inr (some q)))], [.inr (.inr (some 11)), .inr (.inr (some q))], (I261, L34, R3, Y), 0, 0) (fun _ => rfl) ?_
    have hE263 : cs_E I33 I261 := fun p k hp0 hp1 => by rw [← w262, yi_u_ne _ _ (by omega)]
    have hW264 := cs_W_t W37 (cs_E_F (L := L34) hE263)
    have hF265 := cs_F_t F38 (cs_E_F (L := L34) hE263)
    have hf266 : ¬ I261 11 11 = 0 := by rw [hE263 11 11 (by omega) (by omega)]; exact nz39
    have hf266e : I261 11 11 = _ := (hE263 11 11 (by omega) (by omega)).trans e36
    have r267 : I261 11 4 = z32 := by rw [← w262, yi_u_eq]
    refine yi_D_gi (v := z32) rfl rfl rfl r267 (fun _ => ?_)
    refine yi_D_callv rfl (p_kindOf_w hW264) ?_
    rintro _ ⟨z268, rfl⟩
    show yi_D zi_Ms d zi_m265 k (29, [(0, .inr (.inr (some 11))), (1, .inr (.inr (some q)))], [.inl z268], (I261, L34, R3, Y), 0, 0) _
    refine yi_D_run 4 (33, [(2, .inl z268), (0, .inr (.inr (some 11))), (1, .inr (.inr (some q)))], [.inl 1, .inl z268, .inr (.inr (some 11))], (I261, L34, R3, Y), 0, 0) (fun _ => rfl) ?_
    by_cases h269 : z268 = 1
    · refine yi_D_if2 false rfl (yi_ne_f h269) ?_
      refine yi_D_run 2 (41, [(2, .inl z268), (0, .inr (.inr (some 11))), (1, .inr (.inr (some q)))], [.inl 1, .inr (.inr (some 11))], (I261, L34, R3, Y), 0, 0) (fun _ => rfl) ?_
      refine yi_D_pi rfl (fun _ => ?_)
      generalize w271 : yi_u I261 11 7 1 = I270
      refine yi_D_run 2 (46, [(2, .inl z268), (0, .inr (.inr (some 11))), (1, .inr (.inr (some q)))], [.inl 0, .inr (.inr (some 11))], (I270, L34, R3, Y), 0, 0) (fun _ => rfl) ?_
      have hE272 : cs_E I261 I270 := fun p k hp0 hp1 => by rw [← w271, yi_u_ne _ _ (by omega)]
      have hW273 := cs_W_t hW264 (cs_E_F (L := L34) hE272)
      have hF274 := cs_F_t hF265 (cs_E_F (L := L34) hE272)
      have hf275 : ¬ I270 11 11 = 0 := by rw [hE272 11 11 (by omega) (by omega)]; exact hf266
      have hf275e : I270 11 11 = _ := (hE272 11 11 (by omega) (by omega)).trans hf266e
      refine yi_D_callv rfl (p_readFormula_f hW273 hf275) ?_
      rintro _ rfl
      show yi_D zi_Ms d zi_m265 k (49, [(2, .inl z268), (0, .inr (.inr (some 11))), (1, .inr (.inr (some q)))], [], (I270, L34, R3, Y), 0, 0) _
      refine yi_D_run 2 (51, [(2, .inl z268), (0, .inr (.inr (some 11))), (1, .inr (.inr (some q)))], [.inl 2, .inl z268], (I270, L34, R3, Y), 0, 0) (fun _ => rfl) ?_
      have h276 : ¬ (z268 = 2) := by omega
      refine yi_D_if2 true rfl (yi_ne_t h276) ?_
      refine yi_D_run 2 (62, [(2, .inl z268), (0, .inr (.inr (some 11))), (1, .inr (.inr (some q)))], [.inl 59, .inr (.inr (some 11))], (I270, L34, R3, Y), 0, 0) (fun _ => rfl) ?_
      refine yi_D_callv rfl (p_takeKind_f hW273 hf275) ?_
      rintro _ rfl
      show yi_D zi_Ms d zi_m265 k (65, [(2, .inl z268), (0, .inr (.inr (some 11))), (1, .inr (.inr (some q)))], [], (I270, L34, R3, Y), 0, 0) _
      refine yi_D_run 2 (67, [(2, .inl z268), (0, .inr (.inr (some 11))), (1, .inr (.inr (some q)))], [.inl 0, .inr (.inr (some 11))], (I270, L34, R3, Y), 0, 0) (fun _ => rfl) ?_
      refine yi_D_callv rfl (p_takeKind_f hW273 hf275) ?_
      rintro _ rfl
      show yi_D zi_Ms d zi_m265 k (70, [(2, .inl z268), (0, .inr (.inr (some 11))), (1, .inr (.inr (some q)))], [], (I270, L34, R3, Y), 0, 0) _
      refine yi_D_run 1 (71, [(2, .inl z268), (0, .inr (.inr (some 11))), (1, .inr (.inr (some q)))], [.inr (.inr (some 11))], (I270, L34, R3, Y), 0, 0) (fun _ => rfl) ?_
      have r277 : I270 11 11 = I33 11 11 := by rw [← w271, yi_u_ne _ _ (by omega), ← w262, yi_u_ne _ _ (by omega)]
      refine yi_D_gi (v := I33 11 11) rfl rfl rfl r277 (fun _ => ?_)
      refine yi_D_reti rfl ?_
      exact ⟨_, _, _, _, rfl, Or.inr (Or.inl ⟨k31.1, k31.2, e36⟩), ⟨fun p k h1 h2 => hF274.1 p k h1 h2, fun p k h => hF274.2 p k h, fR8⟩, fun h0 => absurd h0 nz39⟩
    · refine yi_D_if2 true rfl (yi_ne_t h269) ?_
      refine yi_D_run 1 (41, [(2, .inl z268), (0, .inr (.inr (some 11))), (1, .inr (.inr (some q)))], [.inl 0, .inr (.inr (some 11))], (I261, L34, R3, Y), 0, 0) (fun _ => rfl) ?_
      refine yi_D_pi rfl (fun _ => ?_)
      generalize w279 : yi_u I261 11 7 0 = I278
      refine yi_D_run 2 (46, [(2, .inl z268), (0, .inr (.inr (some 11))), (1, .inr (.inr (some q)))], [.inl 0, .inr (.inr (some 11))], (I278, L34, R3, Y), 0, 0) (fun _ => rfl) ?_
      have hE280 : cs_E I261 I278 := fun p k hp0 hp1 => by rw [← w279, yi_u_ne _ _ (by omega)]
      have hW281 := cs_W_t hW264 (cs_E_F (L := L34) hE280)
      have hF282 := cs_F_t hF265 (cs_E_F (L := L34) hE280)
      have hf283 : ¬ I278 11 11 = 0 := by rw [hE280 11 11 (by omega) (by omega)]; exact hf266
      have hf283e : I278 11 11 = _ := (hE280 11 11 (by omega) (by omega)).trans hf266e
      refine yi_D_callv rfl (p_readFormula_f hW281 hf283) ?_
      rintro _ rfl
      show yi_D zi_Ms d zi_m265 k (49, [(2, .inl z268), (0, .inr (.inr (some 11))), (1, .inr (.inr (some q)))], [], (I278, L34, R3, Y), 0, 0) _
      refine yi_D_run 2 (51, [(2, .inl z268), (0, .inr (.inr (some 11))), (1, .inr (.inr (some q)))], [.inl 2, .inl z268], (I278, L34, R3, Y), 0, 0) (fun _ => rfl) ?_
      by_cases h284 : z268 = 2
      · refine yi_D_if2 false rfl (yi_ne_f h284) ?_
        refine yi_D_run 2 (56, [(2, .inl z268), (0, .inr (.inr (some 11))), (1, .inr (.inr (some q)))], [.inl 1, .inr (.inr (some 11))], (I278, L34, R3, Y), 0, 0) (fun _ => rfl) ?_
        refine yi_D_callv rfl (p_emit hW281) ?_
        rintro _ ⟨I285, rfl, E286⟩
        have W287 := cs_W_t hW281 (cs_E_F (L := L34) E286)
        have F288 := cs_F_t hF282 (cs_E_F (L := L34) E286)
        have nz289 : ¬ I285 11 11 = 0 := by rw [E286 11 11 (by omega) (by omega)]; exact hf283
        have e290 : I285 11 11 = _ := (E286 11 11 (by omega) (by omega)).trans hf283e
        show yi_D zi_Ms d zi_m265 k (59, [(2, .inl z268), (0, .inr (.inr (some 11))), (1, .inr (.inr (some q)))], [], (I285, L34, R3, Y), 0, 0) _
        refine yi_D_run 2 (62, [(2, .inl z268), (0, .inr (.inr (some 11))), (1, .inr (.inr (some q)))], [.inl 59, .inr (.inr (some 11))], (I285, L34, R3, Y), 0, 0) (fun _ => rfl) ?_
        refine yi_D_callv rfl (p_takeKind_f W287 nz289) ?_
        rintro _ rfl
        show yi_D zi_Ms d zi_m265 k (65, [(2, .inl z268), (0, .inr (.inr (some 11))), (1, .inr (.inr (some q)))], [], (I285, L34, R3, Y), 0, 0) _
        refine yi_D_run 2 (67, [(2, .inl z268), (0, .inr (.inr (some 11))), (1, .inr (.inr (some q)))], [.inl 0, .inr (.inr (some 11))], (I285, L34, R3, Y), 0, 0) (fun _ => rfl) ?_
        refine yi_D_callv rfl (p_takeKind_f W287 nz289) ?_
        rintro _ rfl
        show yi_D zi_Ms d zi_m265 k (70, [(2, .inl z268), (0, .inr (.inr (some 11))), (1, .inr (.inr (some q)))], [], (I285, L34, R3, Y), 0, 0) _
        refine yi_D_run 1 (71, [(2, .inl z268), (0, .inr (.inr (some 11))), (1, .inr (.inr (some q)))], [.inr (.inr (some 11))], (I285, L34, R3, Y), 0, 0) (fun _ => rfl) ?_
        refine yi_D_gi (v := I285 11 11) rfl rfl rfl rfl (fun _ => ?_)
        refine yi_D_reti rfl ?_
        exact ⟨_, _, _, _, rfl, Or.inr (Or.inl ⟨k31.1, k31.2, e290⟩), ⟨fun p k h1 h2 => F288.1 p k h1 h2, fun p k h => F288.2 p k h, fR8⟩, fun h0 => absurd h0 nz289⟩
      · refine yi_D_if2 true rfl (yi_ne_t h284) ?_
        refine yi_D_run 2 (62, [(2, .inl z268), (0, .inr (.inr (some 11))), (1, .inr (.inr (some q)))], [.inl 59, .inr (.inr (some 11))], (I278, L34, R3, Y), 0, 0) (fun _ => rfl) ?_
        refine yi_D_callv rfl (p_takeKind_f hW281 hf283) ?_
        rintro _ rfl
        show yi_D zi_Ms d zi_m265 k (65, [(2, .inl z268), (0, .inr (.inr (some 11))), (1, .inr (.inr (some q)))], [], (I278, L34, R3, Y), 0, 0) _
        refine yi_D_run 2 (67, [(2, .inl z268), (0, .inr (.inr (some 11))), (1, .inr (.inr (some q)))], [.inl 0, .inr (.inr (some 11))], (I278, L34, R3, Y), 0, 0) (fun _ => rfl) ?_
        refine yi_D_callv rfl (p_takeKind_f hW281 hf283) ?_
        rintro _ rfl
        show yi_D zi_Ms d zi_m265 k (70, [(2, .inl z268), (0, .inr (.inr (some 11))), (1, .inr (.inr (some q)))], [], (I278, L34, R3, Y), 0, 0) _
        refine yi_D_run 1 (71, [(2, .inl z268), (0, .inr (.inr (some 11))), (1, .inr (.inr (some q)))], [.inr (.inr (some 11))], (I278, L34, R3, Y), 0, 0) (fun _ => rfl) ?_
        have r291 : I278 11 11 = I33 11 11 := by rw [← w279, yi_u_ne _ _ (by omega), ← w262, yi_u_ne _ _ (by omega)]
        refine yi_D_gi (v := I33 11 11) rfl rfl rfl r291 (fun _ => ?_)
        refine yi_D_reti rfl ?_
        exact ⟨_, _, _, _, rfl, Or.inr (Or.inl ⟨k31.1, k31.2, e36⟩), ⟨fun p k h1 h2 => hF282.1 p k h1 h2, fun p k h => hF282.2 p k h, fR8⟩, fun h0 => absurd h0 nz39⟩
theorem p_readAskedC {d : Nat} {I L : Nat → Nat → Int} {R : Nat → Nat → Option Nat} {Y : (Nat → Nat) × (Nat → Nat) × Nat} {K P V : Nat → Int} {te q da : Nat} {ld : Nat → Int} {nm : Int → Int} (hS : cs_S R Y) (hT : cs_T I L K P V te) (hq : lq_C q ld nm I L R Y) (h20 : 20 ≤ q) (hda : ld 0 = (da : Int)) (hft : ft_K R Y) (hN : 110 ≤ Y.2.2) : yi_P zi_Ms d 252 [.inr (.inr (some 11)), .inr (.inr (some q))] (I, L, R, Y) (fun r => ∃ f I' L' R', r = (some (.inl f), (I', L', R', Y), 0, 0) ∧ sp_R K P V (3, 0, 0, [10, 22], ld, nm, []) (.inr f) ∧ ((∀ p k, p ≠ 11 → p ≠ 19 → I' p k = I p k) ∧ (∀ p k, p ≠ 11 → L' p k = L p k) ∧ ∀ p k, ¬ (p = 11 ∧ k = 6) → R' p k = R p k) ∧ (f = 0 → ∃ a cs, (sp_R K P V (3, 0, 0, [10, 22], ld, nm, []) (.inl (7, a, 0, [22], ld, nm, cs)) ∧ K a = 59 ∧ K (a + 1) = 0) ∧ say_S I' da cs 0 ∧ cs.length ≤ 1000)) := by
  refine yi_P_of (M := zi_m252) rfl (fun d k => ?_)
  show yi_D zi_Ms d zi_m252 k (0, [(0, .inr (.inr (some 11))), (1, .inr (.inr (some q)))], [], (I, L, R, Y), 0, 0) _
  refine yi_D_run 2 (2, [(0, .inr (.inr (some 11))), (1, .inr (.inr (some q)))], [.inr (.inr (some q)), .inr (.inr (some 11))], (I, L, R, Y), 0, 0) (fun _ => rfl) ?_
  refine yi_D_callv rfl (p_beginC ⟨hS, hT⟩) ?_
  rintro _ ⟨I1, L2, R3, rfl, f4, A5, fr6, r67, fR8, z39, z510, z711⟩
  have hq1 := lq_C_t (I' := I1) (L' := L2) (R' := R3) (Y' := Y) hq (fun p k h1 h2 => ⟨(fr6 p k (by omega)).1, (fr6 p k (by omega)).2, fR8 p k (by omega)⟩) (fun _ _ => rfl) (Nat.le_refl _)
  obtain ⟨R2, e2, hc2⟩ := hq1
  have hR2 : R2 = R3 := by
      funext p k
      by_cases c : p = 11 ∧ k = 6
      · rw [c.1, c.2, hc2.1.2.1, r67]
      · exact e2 p k c
  rw [hR2] at hc2
  have hW : cs_W I1 L2 R3 Y K P V te q ld nm := ⟨cs_S_r hS fR8, cs_T_11 hT (fun p k h => (fr6 p k h).1) (fun p k h => (fr6 p k h).2), hc2⟩
  have F12 : cs_F I L I1 L2 := ⟨fun p k h _ => (fr6 p k h).1, fun p k h => (fr6 p k h).2⟩
  have hft1 : ft_K R3 Y := ft_R hft hN fR8 (by have := hc2.1.2.2.2.2.2.2; rw [r67]; intro q1 e; cases e; omega)
  have hlb := hc2.2.2.1
  have hlen := hc2.1.2.2.2
  have hte := hT.1
  show yi_D zi_Ms d zi_m252 k (5, [(0, .inr (.inr (some 11))), (1, .inr (.inr (some q)))], [], (I1, L2, R3, Y), 0, 0) _
  refine yi_D_run 2 (7, [(0, .inr (.inr (some 11))), (1, .inr (.inr (some q)))], [.inl 0, .inr (.inr (some 11))], (I1, L2, R3, Y), 0, 0) (fun _ => rfl) ?_
  refine yi_D_callv rfl (p_rfC hW f4 A5 hda z39 z510 z711 hft1 (by omega)) ?_
  rintro _ (⟨I13, L14, a15, cs16, rfl, F17, h418, sp19, f20, A21, cc22, ll23⟩ | ⟨I27, L28, g29, rfl, F30, h431, sp32, n33, f34⟩)
  · have W24 := cs_W_t hW F17
    have G25 := cs_F_t F12 F17
    have le26 := A21.2.1
    show yi_D zi_Ms d zi_m252 k (10, [(0, .inr (.inr (some 11))), (1, .inr (.inr (some q)))], [], (I13, L14, R3, Y), 0, 0) _
    refine yi_D_run 2 (13, [(0, .inr (.inr (some 11))), (1, .inr (.inr (some q)))], [.inl 59, .inr (.inr (some 11))], (I13, L14, R3, Y), 0, 0) (fun _ => rfl) ?_
    refine yi_D_callv rfl (p_takeKind_z (by omega) W24 f20 A21) ?_
    rintro _ (⟨k38, I39, L40, rfl, G41, f42, A43⟩ | ⟨k46, I47, L48, rfl, G49, f50⟩)
    · have W44 := cs_W_t W24 (cs_G_F G41)
      have F45 := cs_F_t G25 (cs_G_F G41)
      show yi_D zi_Ms d zi_m252 k (16, [(0, .inr (.inr (some 11))), (1, .inr (.inr (some q)))], [], (I39, L40, R3, Y), 0, 0) _
      refine yi_D_run 2 (18, [(0, .inr (.inr (some 11))), (1, .inr (.inr (some q)))], [.inl 0, .inr (.inr (some 11))], (I39, L40, R3, Y), 0, 0) (fun _ => rfl) ?_
      refine yi_D_callv rfl (p_takeKind_g W44 f42 A43) ?_
      rintro _ (⟨k54, I55, L56, rfl, G57, f58⟩ | ⟨k60, I61, L62, rfl, G63, f64⟩)
      · have F59 := cs_F_t F45 (cs_G_F G57)
        show yi_D zi_Ms d zi_m252 k (21, [(0, .inr (.inr (some 11))), (1, .inr (.inr (some q)))], [], (I55, L56, R3, Y), 0, 0) _
        refine yi_D_run 1 (22, [(0, .inr (.inr (some 11))), (1, .inr (.inr (some q)))], [.inr (.inr (some 11))], (I55, L56, R3, Y), 0, 0) (fun _ => rfl) ?_
        refine yi_D_gi (v := I55 11 11) rfl rfl rfl rfl (fun _ => ?_)
        refine yi_D_reti rfl ?_
        have hsf : sp_R K P V (3, 0, 0, [10, 22], ld, nm, []) (.inr (I55 11 11)) := by
          rw [f58]
          exact sp_R_s sp19 (by rw [sp_s7, if_neg (by omega), if_neg (by omega)])
        exact ⟨_, _, _, _, rfl, hsf, ⟨fun p k h1 h2 => F59.1 p k h1 h2, fun p k h => F59.2 p k h, fR8⟩, fun _ => ⟨_, _, ⟨sp19, by omega, by assumption⟩, say_0 (kd := 0) cc22 (by omega) ((G57.1 11 3 (by omega)).trans (G41.1 11 3 (by omega))) ((G57.1 11 5 (by omega)).trans (G41.1 11 5 (by omega))) (fun k => ((G57.1 19 k (by omega)).trans (G41.1 19 k (by omega)))), by omega⟩⟩
      · have F65 := cs_F_t F45 (cs_G_F G63)
        have ne66 : ¬ I61 11 11 = 0 := by rw [f64]; exact sp_f_ne W44 A43.2.1 (by omega)
        show yi_D zi_Ms d zi_m252 k (21, [(0, .inr (.inr (some 11))), (1, .inr (.inr (some q)))], [], (I61, L62, R3, Y), 0, 0) _
        refine yi_D_run 1 (22, [(0, .inr (.inr (some 11))), (1, .inr (.inr (some q)))], [.inr (.inr (some 11))], (I61, L62, R3, Y), 0, 0) (fun _ => rfl) ?_
        refine yi_D_gi (v := I61 11 11) rfl rfl rfl rfl (fun _ => ?_)
        refine yi_D_reti rfl ?_
        have hsf : sp_R K P V (3, 0, 0, [10, 22], ld, nm, []) (.inr (I61 11 11)) := by
          rw [f64]
          exact sp_R_s sp19 (by rw [sp_s7, if_neg (by omega), if_pos (by assumption)])
        exact ⟨_, _, _, _, rfl, hsf, ⟨fun p k h1 h2 => F65.1 p k h1 h2, fun p k h => F65.2 p k h, fR8⟩, fun h0 => absurd h0 ne66⟩
    · have W51 := cs_W_t W24 (cs_G_F G49)
      have F52 := cs_F_t G25 (cs_G_F G49)
      have nz53 : ¬ I47 11 11 = 0 := by rw [f50]; exact sp_f_ne W24 A21.2.1 (by omega)
      show yi_D zi_Ms d zi_m252 k (16, [(0, .inr (.inr (some 11))), (1, .inr (.inr (some q)))], [], (I47, L48, R3, Y), 0, 0) _
      refine yi_D_run 2 (18, [(0, .inr (.inr (some 11))), (1, .inr (.inr (some q)))], [.inl 0, .inr (.inr (some 11))], (I47, L48, R3, Y), 0, 0) (fun _ => rfl) ?_
      refine yi_D_callv rfl (p_takeKind_f W51 nz53) ?_
      rintro _ rfl
      show yi_D zi_Ms d zi_m252 k (21, [(0, .inr (.inr (some 11))), (1, .inr (.inr (some q)))], [], (I47, L48, R3, Y), 0, 0) _
      refine yi_D_run 1 (22, [(0, .inr (.inr (some 11))), (1, .inr (.inr (some q)))], [.inr (.inr (some 11))], (I47, L48, R3, Y), 0, 0) (fun _ => rfl) ?_
      refine yi_D_gi (v := I47 11 11) rfl rfl rfl rfl (fun _ => ?_)
      refine yi_D_reti rfl ?_
      have hsf : sp_R K P V (3, 0, 0, [10, 22], ld, nm, []) (.inr (I47 11 11)) := by
        rw [f50]
        exact sp_R_s sp19 (by rw [sp_s7, if_pos (by assumption)])
      exact ⟨_, _, _, _, rfl, hsf, ⟨fun p k h1 h2 => F52.1 p k h1 h2, fun p k h => F52.2 p k h, fR8⟩, fun h0 => absurd h0 nz53⟩
  · have W35 := cs_W_t hW F30
    have G36 := cs_F_t F12 F30
    have nz37 : ¬ I27 11 11 = 0 := by rw [f34]; exact n33
    show yi_D zi_Ms d zi_m252 k (10, [(0, .inr (.inr (some 11))), (1, .inr (.inr (some q)))], [], (I27, L28, R3, Y), 0, 0) _
    refine yi_D_run 2 (13, [(0, .inr (.inr (some 11))), (1, .inr (.inr (some q)))], [.inl 59, .inr (.inr (some 11))], (I27, L28, R3, Y), 0, 0) (fun _ => rfl) ?_
    refine yi_D_callv rfl (p_takeKind_f W35 nz37) ?_
    rintro _ rfl
    show yi_D zi_Ms d zi_m252 k (16, [(0, .inr (.inr (some 11))), (1, .inr (.inr (some q)))], [], (I27, L28, R3, Y), 0, 0) _
    refine yi_D_run 2 (18, [(0, .inr (.inr (some 11))), (1, .inr (.inr (some q)))], [.inl 0, .inr (.inr (some 11))], (I27, L28, R3, Y), 0, 0) (fun _ => rfl) ?_
    refine yi_D_callv rfl (p_takeKind_f W35 nz37) ?_
    rintro _ rfl
    show yi_D zi_Ms d zi_m252 k (21, [(0, .inr (.inr (some 11))), (1, .inr (.inr (some q)))], [], (I27, L28, R3, Y), 0, 0) _
    refine yi_D_run 1 (22, [(0, .inr (.inr (some 11))), (1, .inr (.inr (some q)))], [.inr (.inr (some 11))], (I27, L28, R3, Y), 0, 0) (fun _ => rfl) ?_
    refine yi_D_gi (v := I27 11 11) rfl rfl rfl rfl (fun _ => ?_)
    refine yi_D_reti rfl ?_
    have hsf : sp_R K P V (3, 0, 0, [10, 22], ld, nm, []) (.inr (I27 11 11)) := by
      rw [f34]
      exact sp32
    exact ⟨_, _, _, _, rfl, hsf, ⟨fun p k h1 h2 => G36.1 p k h1 h2, fun p k h => G36.2 p k h, fR8⟩, fun h0 => absurd h0 nz37⟩
