/-! The class's reader with its codes: items and formulas. -/
/-- what reading with a pile gives, codes and all -/
def cs_QRC (tr : Int × Int → Int) (u0 : Nat) (cb : List (Int × Int)) (fx : Nat → Int) (b0 vg : Int) (I L : Nat → Nat → Int) (R : Nat → Nat → Option Nat) (Y : (Nat → Nat) × (Nat → Nat) × Nat) (K P V : Nat → Int) (te : Nat) (c : sp_C) (e a dp : Nat) (sk : List Nat) (ld : Nat → Int) (nm : Int → Int) (cs : List (Int × Int)) (r : yi_R) : Prop := ∃ I' L', r = (none, (I', L', R, Y), 0, 0) ∧ cs_F I L I' L' ∧ ((∃ a' cs', sp_R K P V c (.inl (e, a', dp, sk, ld, nm, cs')) ∧ a < a' ∧ I' 11 11 = 0 ∧ cs_A I' L' K te a' ∧ cc_S tr u0 cb fx b0 vg false I' cs' ∧ cs'.length + a ≤ cs.length + a') ∨ (∃ f, sp_R K P V c (.inr f) ∧ ¬ f = 0 ∧ I' 11 11 = f))
def cs_RIC (d : Nat) : Prop := ∀ {I L : Nat → Nat → Int} {R : Nat → Nat → Option Nat} {Y : (Nat → Nat) × (Nat → Nat) × Nat} {K P V : Nat → Int} {te q a : Nat} {ld : Nat → Int} {nm : Int → Int} {u0 da : Nat} {cb : List (Int × Int)} {fx : Nat → Int} {b0 vg : Int} (dp : Nat) (sk : List Nat) (cs : List (Int × Int)), cs_W I L R Y K P V te q ld nm → I 11 11 = 0 → cs_A I L K te a → dp ≤ 5 → ld 0 = (da : Int) → cc_S (trF da vg) u0 cb fx b0 vg false I cs → u0 + cs.length + te ≤ 1001 + cb.length + a → yi_P zi_Ms d 257 [.inr (.inr (some 11)), .inl (dp : Int)] (I, L, R, Y) (cs_QRC (trF da vg) u0 cb fx b0 vg I L R Y K P V te (3, a, dp, sk, ld, nm, cs) 4 a dp sk ld nm cs)
def cs_RFC (d : Nat) : Prop := ∀ {I L : Nat → Nat → Int} {R : Nat → Nat → Option Nat} {Y : (Nat → Nat) × (Nat → Nat) × Nat} {K P V : Nat → Int} {te q a : Nat} {ld : Nat → Int} {nm : Int → Int} {u0 da : Nat} {cb : List (Int × Int)} {fx : Nat → Int} {b0 vg : Int} (dp : Nat) (sk : List Nat) (cs : List (Int × Int)), cs_W I L R Y K P V te q ld nm → I 11 11 = 0 → cs_A I L K te a → dp ≤ 5 → ld 0 = (da : Int) → cc_S (trF da vg) u0 cb fx b0 vg false I cs → u0 + cs.length + te ≤ 1001 + cb.length + a → yi_P zi_Ms d 256 [.inr (.inr (some 11)), .inl (dp : Int)] (I, L, R, Y) (cs_QRC (trF da vg) u0 cb fx b0 vg I L R Y K P V te (3, a, dp, 10 :: sk, ld, nm, cs) 7 a dp sk ld nm cs)
theorem p_readItemC_s {d : Nat} {I L : Nat → Nat → Int} {R : Nat → Nat → Option Nat} {Y : (Nat → Nat) × (Nat → Nat) × Nat} (hRI : cs_RIC d) (hRF : cs_RFC d) {K P V : Nat → Int} {te q a : Nat} {ld : Nat → Int} {nm : Int → Int} (hW : cs_W I L R Y K P V te q ld nm) (hf : I 11 11 = 0) (hA : cs_A I L K te a) (dp : Nat) (sk : List Nat) (cs : List (Int × Int)) (hd : dp ≤ 5) {u0 da : Nat} {cb : List (Int × Int)} {fx : Nat → Int} {b0 vg : Int} (hda : ld 0 = (da : Int)) (hcc : cc_S (trF da vg) u0 cb fx b0 vg false I cs) (hu : u0 + cs.length + te ≤ 1001 + cb.length + a) : yi_P zi_Ms (d + 1) 257 [.inr (.inr (some 11)), .inl (dp : Int)] (I, L, R, Y) (cs_QRC (trF da vg) u0 cb fx b0 vg I L R Y K P V te (3, a, dp, sk, ld, nm, cs) 4 a dp sk ld nm cs) := by
  refine yi_P_s (M := zi_m257) rfl (fun k => ?_)
  obtain ⟨ly1, ly2, ly3, ly4⟩ := hW.2.2.1.2.2.2
  have lb := hW.2.2.2.2.1
  have hq0 := hW.2.2.1.1
  have hp := hW.2.1.2.2.1 a hA.2.1
  have hc0 := cc_le hcc
  have hle0 := hA.2.1
  have hte0 := hW.2.1.1
  show yi_D zi_Ms d zi_m257 k (0, [(0, .inr (.inr (some 11))), (1, .inl (dp : Int))], [], (I, L, R, Y), 0, 0) _
  refine yi_D_run 1 (1, [(0, .inr (.inr (some 11))), (1, .inl (dp : Int))], [.inr (.inr (some 11))], (I, L, R, Y), 0, 0) (fun _ => rfl) ?_
  refine yi_D_gi (v := K a) rfl rfl rfl hA.2.2.1 (fun _ => ?_)
  refine yi_D_run 3 (8, [(2, .inl (K a)), (0, .inr (.inr (some 11))), (1, .inl (dp : Int))], [.inl 16, .inl (K a)], (I, L, R, Y), 0, 0) (fun _ => rfl) ?_
  by_cases h1 : (K a) = 16
  · refine yi_D_if2 true rfl (yi_eq_t h1) ?_
    refine yi_D_run 5 (25, [(3, .inl 1), (2, .inl (K a)), (0, .inr (.inr (some 11))), (1, .inl (dp : Int))], [.inl 3, .inl (K a)], (I, L, R, Y), 0, 0) (fun _ => rfl) ?_
    have h2 : ¬ ((K a) = 3) := by omega
    refine yi_D_if2 false rfl (yi_eq_f h2) ?_
    refine yi_D_run 2 (31, [(3, .inl 1), (2, .inl (K a)), (0, .inr (.inr (some 11))), (1, .inl (dp : Int))], [.inl 14, .inl (K a)], (I, L, R, Y), 0, 0) (fun _ => rfl) ?_
    have h3 : ¬ ((K a) = 14) := by omega
    refine yi_D_if2 false rfl (yi_eq_f h3) ?_
    refine yi_D_run 2 (37, [(3, .inl 1), (2, .inl (K a)), (0, .inr (.inr (some 11))), (1, .inl (dp : Int))], [.inl 15, .inl (K a)], (I, L, R, Y), 0, 0) (fun _ => rfl) ?_
    have h4 : ¬ ((K a) = 15) := by omega
    refine yi_D_if2 true rfl (yi_ne_t h4) ?_
    refine yi_D_run 4 (50, [(4, .inl 0), (3, .inl 1), (2, .inl (K a)), (0, .inr (.inr (some 11))), (1, .inl (dp : Int))], [.inl 30, .inl (K a)], (I, L, R, Y), 0, 0) (fun _ => rfl) ?_
    have h5 : ¬ ((K a) = 30) := by omega
    refine yi_D_if2 false rfl (yi_eq_f h5) ?_
    refine yi_D_run 2 (56, [(4, .inl 0), (3, .inl 1), (2, .inl (K a)), (0, .inr (.inr (some 11))), (1, .inl (dp : Int))], [.inl 40, .inl (K a)], (I, L, R, Y), 0, 0) (fun _ => rfl) ?_
    have h6 : ¬ ((K a) = 40) := by omega
    refine yi_D_if2 false rfl (yi_eq_f h6) ?_
    refine yi_D_run 1 (60, [(4, .inl 0), (3, .inl 1), (2, .inl (K a)), (0, .inr (.inr (some 11))), (1, .inl (dp : Int))], [.inl 1], (I, L, R, Y), 0, 0) (fun _ => rfl) ?_
    refine yi_D_if1 true rfl (by decide) ?_
    refine yi_D_run 2 (78, [(4, .inl 0), (3, .inl 1), (2, .inl (K a)), (0, .inr (.inr (some 11))), (1, .inl (dp : Int))], [.inl 3, .inl (K a)], (I, L, R, Y), 0, 0) (fun _ => rfl) ?_
    have h7 : ¬ ((K a) = 3) := by omega
    refine yi_D_if2 true rfl (yi_ne_t h7) ?_
    refine yi_D_run 2 (116, [(4, .inl 0), (3, .inl 1), (2, .inl (K a)), (0, .inr (.inr (some 11))), (1, .inl (dp : Int))], [.inl 5, .inl (dp : Int)], (I, L, R, Y), 0, 0) (fun _ => rfl) ?_
    by_cases h8 : (dp : Int) < 5
    · refine yi_D_if2 true rfl (yi_lt_t h8) ?_
      refine yi_D_run 1 (125, [(4, .inl 0), (3, .inl 1), (2, .inl (K a)), (0, .inr (.inr (some 11))), (1, .inl (dp : Int))], [.inr (.inr (some 11))], (I, L, R, Y), 0, 0) (fun _ => rfl) ?_
      refine yi_D_gi (v := 0) rfl rfl rfl hf (fun _ => ?_)
      refine yi_D_if1 true rfl (by decide) ?_
      refine yi_D_run 2 (135, [(4, .inl 0), (3, .inl 1), (2, .inl (K a)), (0, .inr (.inr (some 11))), (1, .inl (dp : Int))], [.inl 30, .inl (K a)], (I, L, R, Y), 0, 0) (fun _ => rfl) ?_
      have h9 : ¬ ((K a) = 30) := by omega
      refine yi_D_if2 true rfl (yi_ne_t h9) ?_
      refine yi_D_run 2 (160, [(4, .inl 0), (3, .inl 1), (2, .inl (K a)), (0, .inr (.inr (some 11))), (1, .inl (dp : Int))], [.inl 40, .inl (K a)], (I, L, R, Y), 0, 0) (fun _ => rfl) ?_
      have h10 : ¬ ((K a) = 40) := by omega
      refine yi_D_if2 true rfl (yi_ne_t h10) ?_
      refine yi_D_run 1 (184, [(4, .inl 0), (3, .inl 1), (2, .inl (K a)), (0, .inr (.inr (some 11))), (1, .inl (dp : Int))], [.inl 1], (I, L, R, Y), 0, 0) (fun _ => rfl) ?_
      refine yi_D_if1 false rfl (by decide) ?_
      refine yi_D_run 1 (188, [(4, .inl 0), (3, .inl 1), (2, .inl (K a)), (0, .inr (.inr (some 11))), (1, .inl (dp : Int))], [.inr (.inr (some 11))], (I, L, R, Y), 0, 0) (fun _ => rfl) ?_
      have hk : K a = 16 ∨ K a = 17 := by omega
      refine yi_D_callv rfl (p_readPairC hW hf hA hk hda hcc (by omega)) ?_
      rintro _ ⟨I11, L12, rfl, hFr13, (⟨a14, x15, hs16, hf17, hA18, hcc19⟩ | ⟨f20, hs21, hz22, he23⟩)⟩
      · have hW24 := cs_W_t hW hFr13
        have hF25 := hFr13
        have hF26 : ∀ p k, (p ≠ 11 ∧ p ≠ 19) → I11 p k = I p k := fun p k h => hFr13.1 p k h.1 h.2
        have hR27 : sp_R K P V (3, a, dp, sk, ld, nm, cs) (.inl (4, a14, dp, sk, ld, nm, cs ++ [(11, x15)])) := sp_R_1 (by
          show sp_item K P V a dp sk ld nm cs = _
          unfold sp_item
          repeat (first | rw [if_pos (by omega)] | rw [if_neg (by omega)])
          unfold sp_cl
          rw [if_pos (by omega), hs16])
        have lt28 : a < a14 := sp_pair_lt hs16
        have hlnhcc19 := List.length_append (as := cs) (bs := [((11 : Int), x15)])
        rw [List.length_singleton] at hlnhcc19
        show yi_D zi_Ms d zi_m257 k (191, [(4, .inl 0), (3, .inl 1), (2, .inl (K a)), (0, .inr (.inr (some 11))), (1, .inl (dp : Int))], [], (I11, L12, R, Y), 0, 0) _
        refine yi_D_run 1 (198, [(4, .inl 0), (3, .inl 1), (2, .inl (K a)), (0, .inr (.inr (some 11))), (1, .inl (dp : Int))], [], (I11, L12, R, Y), 0, 0) (fun _ => rfl) ?_
        refine yi_D_retv rfl ?_
        exact ⟨_, _, rfl, hF25, Or.inl ⟨_, _, hR27, by omega, hf17, hA18, hcc19, by omega⟩⟩
      · have hW29 := cs_W_t hW hFr13
        have hF30 := hFr13
        have hF31 : ∀ p k, (p ≠ 11 ∧ p ≠ 19) → I11 p k = I p k := fun p k h => hFr13.1 p k h.1 h.2
        have hn32 : ¬ I11 11 11 = 0 := by rw [he23]; exact hz22
        have hx33 : sp_R K P V (3, a, dp, sk, ld, nm, cs) (.inr f20) := sp_R_1 (by
          show sp_item K P V a dp sk ld nm cs = _
          unfold sp_item
          repeat (first | rw [if_pos (by omega)] | rw [if_neg (by omega)])
          unfold sp_cl
          rw [if_pos (by omega), hs21])
        show yi_D zi_Ms d zi_m257 k (191, [(4, .inl 0), (3, .inl 1), (2, .inl (K a)), (0, .inr (.inr (some 11))), (1, .inl (dp : Int))], [], (I11, L12, R, Y), 0, 0) _
        refine yi_D_run 1 (198, [(4, .inl 0), (3, .inl 1), (2, .inl (K a)), (0, .inr (.inr (some 11))), (1, .inl (dp : Int))], [], (I11, L12, R, Y), 0, 0) (fun _ => rfl) ?_
        refine yi_D_retv rfl ?_
        exact ⟨_, _, rfl, hF30, Or.inr ⟨_, hx33, hz22, he23⟩⟩
    · refine yi_D_if2 false rfl (yi_lt_f h8) ?_
      refine yi_D_run 2 (121, [(4, .inl 0), (3, .inl 1), (2, .inl (K a)), (0, .inr (.inr (some 11))), (1, .inl (dp : Int))], [.inl 5, .inr (.inr (some 11))], (I, L, R, Y), 0, 0) (fun _ => rfl) ?_
      refine yi_D_callv rfl (p_wrong_z ⟨by omega, by omega⟩ hW hf hA) ?_
      rintro _ ⟨I34, rfl, hg35, he36⟩
      have hGw37 : cs_G I L I34 L := ⟨fun p k hp => hg35 p k (by omega), fun _ _ _ => rfl⟩
      have hW38 := cs_W_t hW (cs_G_F hGw37)
      have hF39 := (cs_G_F hGw37)
      have hG40 := hGw37
      have hz41 : ¬ sp_f P a 5 = 0 := sp_f_ne hW hA.2.1 (by omega)
      have hn42 : ¬ I34 11 11 = 0 := by rw [he36]; exact hz41
      have hx43 : sp_R K P V (3, a, dp, sk, ld, nm, cs) (.inr (sp_f P a 5)) := sp_R_1 (by
        show sp_item K P V a dp sk ld nm cs = _
        first
        | (exfalso; omega)
        | (unfold sp_item; repeat (first | rw [if_pos (by omega)] | rw [if_neg (by omega)])))
      show yi_D zi_Ms d zi_m257 k (124, [(4, .inl 0), (3, .inl 1), (2, .inl (K a)), (0, .inr (.inr (some 11))), (1, .inl (dp : Int))], [], (I34, L, R, Y), 0, 0) _
      refine yi_D_run 1 (125, [(4, .inl 0), (3, .inl 1), (2, .inl (K a)), (0, .inr (.inr (some 11))), (1, .inl (dp : Int))], [.inr (.inr (some 11))], (I34, L, R, Y), 0, 0) (fun _ => rfl) ?_
      refine yi_D_gi (v := I34 11 11) rfl rfl rfl rfl (fun _ => ?_)
      have h44 : ¬ ((I34 11 11) = 0) := by omega
      refine yi_D_if1 false rfl (yi_eq_f h44) ?_
      refine yi_D_retv rfl ?_
      exact ⟨_, _, rfl, hF39, Or.inr ⟨_, hx43, hz41, he36⟩⟩
  · refine yi_D_if2 false rfl (yi_eq_f h1) ?_
    refine yi_D_run 2 (14, [(2, .inl (K a)), (0, .inr (.inr (some 11))), (1, .inl (dp : Int))], [.inl 17, .inl (K a)], (I, L, R, Y), 0, 0) (fun _ => rfl) ?_
    by_cases h45 : (K a) = 17
    · refine yi_D_if2 false rfl (yi_ne_f h45) ?_
      refine yi_D_run 5 (25, [(3, .inl 1), (2, .inl (K a)), (0, .inr (.inr (some 11))), (1, .inl (dp : Int))], [.inl 3, .inl (K a)], (I, L, R, Y), 0, 0) (fun _ => rfl) ?_
      have h46 : ¬ ((K a) = 3) := by omega
      refine yi_D_if2 false rfl (yi_eq_f h46) ?_
      refine yi_D_run 2 (31, [(3, .inl 1), (2, .inl (K a)), (0, .inr (.inr (some 11))), (1, .inl (dp : Int))], [.inl 14, .inl (K a)], (I, L, R, Y), 0, 0) (fun _ => rfl) ?_
      have h47 : ¬ ((K a) = 14) := by omega
      refine yi_D_if2 false rfl (yi_eq_f h47) ?_
      refine yi_D_run 2 (37, [(3, .inl 1), (2, .inl (K a)), (0, .inr (.inr (some 11))), (1, .inl (dp : Int))], [.inl 15, .inl (K a)], (I, L, R, Y), 0, 0) (fun _ => rfl) ?_
      have h48 : ¬ ((K a) = 15) := by omega
      refine yi_D_if2 true rfl (yi_ne_t h48) ?_
      refine yi_D_run 4 (50, [(4, .inl 0), (3, .inl 1), (2, .inl (K a)), (0, .inr (.inr (some 11))), (1, .inl (dp : Int))], [.inl 30, .inl (K a)], (I, L, R, Y), 0, 0) (fun _ => rfl) ?_
      have h49 : ¬ ((K a) = 30) := by omega
      refine yi_D_if2 false rfl (yi_eq_f h49) ?_
      refine yi_D_run 2 (56, [(4, .inl 0), (3, .inl 1), (2, .inl (K a)), (0, .inr (.inr (some 11))), (1, .inl (dp : Int))], [.inl 40, .inl (K a)], (I, L, R, Y), 0, 0) (fun _ => rfl) ?_
      have h50 : ¬ ((K a) = 40) := by omega
      refine yi_D_if2 false rfl (yi_eq_f h50) ?_
      refine yi_D_run 1 (60, [(4, .inl 0), (3, .inl 1), (2, .inl (K a)), (0, .inr (.inr (some 11))), (1, .inl (dp : Int))], [.inl 1], (I, L, R, Y), 0, 0) (fun _ => rfl) ?_
      refine yi_D_if1 true rfl (by decide) ?_
      refine yi_D_run 2 (78, [(4, .inl 0), (3, .inl 1), (2, .inl (K a)), (0, .inr (.inr (some 11))), (1, .inl (dp : Int))], [.inl 3, .inl (K a)], (I, L, R, Y), 0, 0) (fun _ => rfl) ?_
      have h51 : ¬ ((K a) = 3) := by omega
      refine yi_D_if2 true rfl (yi_ne_t h51) ?_
      refine yi_D_run 2 (116, [(4, .inl 0), (3, .inl 1), (2, .inl (K a)), (0, .inr (.inr (some 11))), (1, .inl (dp : Int))], [.inl 5, .inl (dp : Int)], (I, L, R, Y), 0, 0) (fun _ => rfl) ?_
      by_cases h52 : (dp : Int) < 5
      · refine yi_D_if2 true rfl (yi_lt_t h52) ?_
        refine yi_D_run 1 (125, [(4, .inl 0), (3, .inl 1), (2, .inl (K a)), (0, .inr (.inr (some 11))), (1, .inl (dp : Int))], [.inr (.inr (some 11))], (I, L, R, Y), 0, 0) (fun _ => rfl) ?_
        refine yi_D_gi (v := 0) rfl rfl rfl hf (fun _ => ?_)
        refine yi_D_if1 true rfl (by decide) ?_
        refine yi_D_run 2 (135, [(4, .inl 0), (3, .inl 1), (2, .inl (K a)), (0, .inr (.inr (some 11))), (1, .inl (dp : Int))], [.inl 30, .inl (K a)], (I, L, R, Y), 0, 0) (fun _ => rfl) ?_
        have h53 : ¬ ((K a) = 30) := by omega
        refine yi_D_if2 true rfl (yi_ne_t h53) ?_
        refine yi_D_run 2 (160, [(4, .inl 0), (3, .inl 1), (2, .inl (K a)), (0, .inr (.inr (some 11))), (1, .inl (dp : Int))], [.inl 40, .inl (K a)], (I, L, R, Y), 0, 0) (fun _ => rfl) ?_
        have h54 : ¬ ((K a) = 40) := by omega
        refine yi_D_if2 true rfl (yi_ne_t h54) ?_
        refine yi_D_run 1 (184, [(4, .inl 0), (3, .inl 1), (2, .inl (K a)), (0, .inr (.inr (some 11))), (1, .inl (dp : Int))], [.inl 1], (I, L, R, Y), 0, 0) (fun _ => rfl) ?_
        refine yi_D_if1 false rfl (by decide) ?_
        refine yi_D_run 1 (188, [(4, .inl 0), (3, .inl 1), (2, .inl (K a)), (0, .inr (.inr (some 11))), (1, .inl (dp : Int))], [.inr (.inr (some 11))], (I, L, R, Y), 0, 0) (fun _ => rfl) ?_
        have hk : K a = 16 ∨ K a = 17 := by omega
        refine yi_D_callv rfl (p_readPairC hW hf hA hk hda hcc (by omega)) ?_
        rintro _ ⟨I55, L56, rfl, hFr57, (⟨a58, x59, hs60, hf61, hA62, hcc63⟩ | ⟨f64, hs65, hz66, he67⟩)⟩
        · have hW68 := cs_W_t hW hFr57
          have hF69 := hFr57
          have hF70 : ∀ p k, (p ≠ 11 ∧ p ≠ 19) → I55 p k = I p k := fun p k h => hFr57.1 p k h.1 h.2
          have hR71 : sp_R K P V (3, a, dp, sk, ld, nm, cs) (.inl (4, a58, dp, sk, ld, nm, cs ++ [(11, x59)])) := sp_R_1 (by
            show sp_item K P V a dp sk ld nm cs = _
            unfold sp_item
            repeat (first | rw [if_pos (by omega)] | rw [if_neg (by omega)])
            unfold sp_cl
            rw [if_pos (by omega), hs60])
          have lt72 : a < a58 := sp_pair_lt hs60
          have hlnhcc63 := List.length_append (as := cs) (bs := [((11 : Int), x59)])
          rw [List.length_singleton] at hlnhcc63
          show yi_D zi_Ms d zi_m257 k (191, [(4, .inl 0), (3, .inl 1), (2, .inl (K a)), (0, .inr (.inr (some 11))), (1, .inl (dp : Int))], [], (I55, L56, R, Y), 0, 0) _
          refine yi_D_run 1 (198, [(4, .inl 0), (3, .inl 1), (2, .inl (K a)), (0, .inr (.inr (some 11))), (1, .inl (dp : Int))], [], (I55, L56, R, Y), 0, 0) (fun _ => rfl) ?_
          refine yi_D_retv rfl ?_
          exact ⟨_, _, rfl, hF69, Or.inl ⟨_, _, hR71, by omega, hf61, hA62, hcc63, by omega⟩⟩
        · have hW73 := cs_W_t hW hFr57
          have hF74 := hFr57
          have hF75 : ∀ p k, (p ≠ 11 ∧ p ≠ 19) → I55 p k = I p k := fun p k h => hFr57.1 p k h.1 h.2
          have hn76 : ¬ I55 11 11 = 0 := by rw [he67]; exact hz66
          have hx77 : sp_R K P V (3, a, dp, sk, ld, nm, cs) (.inr f64) := sp_R_1 (by
            show sp_item K P V a dp sk ld nm cs = _
            unfold sp_item
            repeat (first | rw [if_pos (by omega)] | rw [if_neg (by omega)])
            unfold sp_cl
            rw [if_pos (by omega), hs65])
          show yi_D zi_Ms d zi_m257 k (191, [(4, .inl 0), (3, .inl 1), (2, .inl (K a)), (0, .inr (.inr (some 11))), (1, .inl (dp : Int))], [], (I55, L56, R, Y), 0, 0) _
          refine yi_D_run 1 (198, [(4, .inl 0), (3, .inl 1), (2, .inl (K a)), (0, .inr (.inr (some 11))), (1, .inl (dp : Int))], [], (I55, L56, R, Y), 0, 0) (fun _ => rfl) ?_
          refine yi_D_retv rfl ?_
          exact ⟨_, _, rfl, hF74, Or.inr ⟨_, hx77, hz66, he67⟩⟩
      · refine yi_D_if2 false rfl (yi_lt_f h52) ?_
        refine yi_D_run 2 (121, [(4, .inl 0), (3, .inl 1), (2, .inl (K a)), (0, .inr (.inr (some 11))), (1, .inl (dp : Int))], [.inl 5, .inr (.inr (some 11))], (I, L, R, Y), 0, 0) (fun _ => rfl) ?_
        refine yi_D_callv rfl (p_wrong_z ⟨by omega, by omega⟩ hW hf hA) ?_
        rintro _ ⟨I78, rfl, hg79, he80⟩
        have hGw81 : cs_G I L I78 L := ⟨fun p k hp => hg79 p k (by omega), fun _ _ _ => rfl⟩
        have hW82 := cs_W_t hW (cs_G_F hGw81)
        have hF83 := (cs_G_F hGw81)
        have hG84 := hGw81
        have hz85 : ¬ sp_f P a 5 = 0 := sp_f_ne hW hA.2.1 (by omega)
        have hn86 : ¬ I78 11 11 = 0 := by rw [he80]; exact hz85
        have hx87 : sp_R K P V (3, a, dp, sk, ld, nm, cs) (.inr (sp_f P a 5)) := sp_R_1 (by
          show sp_item K P V a dp sk ld nm cs = _
          first
          | (exfalso; omega)
          | (unfold sp_item; repeat (first | rw [if_pos (by omega)] | rw [if_neg (by omega)])))
        show yi_D zi_Ms d zi_m257 k (124, [(4, .inl 0), (3, .inl 1), (2, .inl (K a)), (0, .inr (.inr (some 11))), (1, .inl (dp : Int))], [], (I78, L, R, Y), 0, 0) _
        refine yi_D_run 1 (125, [(4, .inl 0), (3, .inl 1), (2, .inl (K a)), (0, .inr (.inr (some 11))), (1, .inl (dp : Int))], [.inr (.inr (some 11))], (I78, L, R, Y), 0, 0) (fun _ => rfl) ?_
        refine yi_D_gi (v := I78 11 11) rfl rfl rfl rfl (fun _ => ?_)
        have h88 : ¬ ((I78 11 11) = 0) := by omega
        refine yi_D_if1 false rfl (yi_eq_f h88) ?_
        refine yi_D_retv rfl ?_
        exact ⟨_, _, rfl, hF83, Or.inr ⟨_, hx87, hz85, he80⟩⟩
    · refine yi_D_if2 true rfl (yi_ne_t h45) ?_
      refine yi_D_run 4 (25, [(3, .inl 0), (2, .inl (K a)), (0, .inr (.inr (some 11))), (1, .inl (dp : Int))], [.inl 3, .inl (K a)], (I, L, R, Y), 0, 0) (fun _ => rfl) ?_
      by_cases h89 : (K a) = 3
      · refine yi_D_if2 true rfl (yi_eq_t h89) ?_
        refine yi_D_run 5 (50, [(4, .inl 1), (3, .inl 0), (2, .inl (K a)), (0, .inr (.inr (some 11))), (1, .inl (dp : Int))], [.inl 30, .inl (K a)], (I, L, R, Y), 0, 0) (fun _ => rfl) ?_
        have h90 : ¬ ((K a) = 30) := by omega
        refine yi_D_if2 false rfl (yi_eq_f h90) ?_
        refine yi_D_run 2 (56, [(4, .inl 1), (3, .inl 0), (2, .inl (K a)), (0, .inr (.inr (some 11))), (1, .inl (dp : Int))], [.inl 40, .inl (K a)], (I, L, R, Y), 0, 0) (fun _ => rfl) ?_
        have h91 : ¬ ((K a) = 40) := by omega
        refine yi_D_if2 false rfl (yi_eq_f h91) ?_
        refine yi_D_run 1 (60, [(4, .inl 1), (3, .inl 0), (2, .inl (K a)), (0, .inr (.inr (some 11))), (1, .inl (dp : Int))], [.inl 0], (I, L, R, Y), 0, 0) (fun _ => rfl) ?_
        refine yi_D_if1 false rfl (by decide) ?_
        refine yi_D_run 1 (65, [(4, .inl 1), (3, .inl 0), (2, .inl (K a)), (0, .inr (.inr (some 11))), (1, .inl (dp : Int))], [.inl 1], (I, L, R, Y), 0, 0) (fun _ => rfl) ?_
        refine yi_D_if1 true rfl (by decide) ?_
        refine yi_D_run 2 (78, [(4, .inl 1), (3, .inl 0), (2, .inl (K a)), (0, .inr (.inr (some 11))), (1, .inl (dp : Int))], [.inl 3, .inl (K a)], (I, L, R, Y), 0, 0) (fun _ => rfl) ?_
        have h92 : (K a) = 3 := by omega
        refine yi_D_if2 false rfl (yi_ne_f h92) ?_
        refine yi_D_run 1 (82, [(4, .inl 1), (3, .inl 0), (2, .inl (K a)), (0, .inr (.inr (some 11))), (1, .inl (dp : Int))], [.inr (.inr (some 11))], (I, L, R, Y), 0, 0) (fun _ => rfl) ?_
        refine yi_D_gr (v := some q) rfl rfl rfl hW.2.2.1.2.1 (fun _ => ?_)
        refine yi_D_gr (v := some (q + 1)) rfl rfl (Nat.ble_eq_true_of_le (by omega)) (hW.2.2.1.2.2.1 0 (by omega)) (fun _ => ?_)
        refine yi_D_run 1 (89, [(4, .inl 1), (3, .inl 0), (2, .inl (K a)), (0, .inr (.inr (some 11))), (1, .inl (dp : Int))], [.inr (.inr (some 11)), .inr (.inr (some (q + 1)))], (I, L, R, Y), 0, 0) (fun _ => rfl) ?_
        refine yi_D_gr (v := some q) rfl rfl rfl hW.2.2.1.2.1 (fun _ => ?_)
        refine yi_D_gi (v := ld 1) rfl rfl (Nat.ble_eq_true_of_le (by omega)) hW.2.2.2.1.2.1 (fun _ => ?_)
        refine yi_D_run 1 (96, [(4, .inl 1), (3, .inl 0), (2, .inl (K a)), (0, .inr (.inr (some 11))), (1, .inl (dp : Int))], [.inr (.inr (some 11)), .inl (ld 1), .inr (.inr (some (q + 1)))], (I, L, R, Y), 0, 0) (fun _ => rfl) ?_
        refine yi_D_gl (v := L 16 a) rfl rfl rfl hA.2.2.2 (fun _ => ?_)
        refine yi_D_calls rfl (p_find (by omega) ⟨by omega, by omega, by omega⟩) ?_
        rintro _ ⟨z93, rfl, hz94⟩
        show yi_D zi_Ms d zi_m257 k (102, [(4, .inl 1), (3, .inl 0), (2, .inl (K a)), (0, .inr (.inr (some 11))), (1, .inl (dp : Int))], [.inl z93], (I, L, R, Y), 0, 0) _
        refine yi_D_run 1 (103, [(4, .inl 1), (3, .inl 0), (2, .inl (K a)), (0, .inr (.inr (some 11))), (1, .inl (dp : Int))], [.inl (-1), .inl z93], (I, L, R, Y), 0, 0) (fun _ => rfl) ?_
        have hq95 := cs_N_fd hW.2.2.2.2.2.2.2.1.1 (hp.2.2.2.2.1 (by omega)) hz94
        have hq95b : (z93 = nm (V a) - 0 ∧ 0 ≤ nm (V a) ∧ nm (V a) ≤ 3) ∨ (z93 = -1 ∧ ¬ (0 ≤ nm (V a) ∧ nm (V a) ≤ 3)) := by
          by_cases hc : 0 ≤ nm (V a) ∧ nm (V a) ≤ 3
          · rw [if_pos hc] at hq95; exact Or.inl ⟨hq95, hc⟩
          · rw [if_neg hc] at hq95; exact Or.inr ⟨hq95, hc⟩
        by_cases h96 : z93 = (-1)
        · refine yi_D_if2 false rfl (yi_ne_f h96) ?_
          refine yi_D_run 2 (108, [(4, .inl 1), (3, .inl 0), (2, .inl (K a)), (0, .inr (.inr (some 11))), (1, .inl (dp : Int))], [.inl 2, .inr (.inr (some 11))], (I, L, R, Y), 0, 0) (fun _ => rfl) ?_
          refine yi_D_callv rfl (p_wrong_z ⟨by omega, by omega⟩ hW hf hA) ?_
          rintro _ ⟨I97, rfl, hg98, he99⟩
          have hGw100 : cs_G I L I97 L := ⟨fun p k hp => hg98 p k (by omega), fun _ _ _ => rfl⟩
          have hW101 := cs_W_t hW (cs_G_F hGw100)
          have hF102 := (cs_G_F hGw100)
          have hG103 := hGw100
          have hz104 : ¬ sp_f P a 2 = 0 := sp_f_ne hW hA.2.1 (by omega)
          have hn105 : ¬ I97 11 11 = 0 := by rw [he99]; exact hz104
          have hx106 : sp_R K P V (3, a, dp, sk, ld, nm, cs) (.inr (sp_f P a 2)) := sp_R_1 (by
            show sp_item K P V a dp sk ld nm cs = _
            first
            | (exfalso; omega)
            | (unfold sp_item; repeat (first | rw [if_pos (by omega)] | rw [if_neg (by omega)])))
          show yi_D zi_Ms d zi_m257 k (111, [(4, .inl 1), (3, .inl 0), (2, .inl (K a)), (0, .inr (.inr (some 11))), (1, .inl (dp : Int))], [], (I97, L, R, Y), 0, 0) _
          refine yi_D_run 2 (125, [(4, .inl 1), (3, .inl 0), (2, .inl (K a)), (0, .inr (.inr (some 11))), (1, .inl (dp : Int))], [.inr (.inr (some 11))], (I97, L, R, Y), 0, 0) (fun _ => rfl) ?_
          refine yi_D_gi (v := I97 11 11) rfl rfl rfl rfl (fun _ => ?_)
          have h107 : ¬ ((I97 11 11) = 0) := by omega
          refine yi_D_if1 false rfl (yi_eq_f h107) ?_
          refine yi_D_retv rfl ?_
          exact ⟨_, _, rfl, hF102, Or.inr ⟨_, hx106, hz104, he99⟩⟩
        · refine yi_D_if2 true rfl (yi_ne_t h96) ?_
          refine yi_D_run 2 (116, [(4, .inl 1), (3, .inl 0), (2, .inl (K a)), (0, .inr (.inr (some 11))), (1, .inl (dp : Int))], [.inl 5, .inl (dp : Int)], (I, L, R, Y), 0, 0) (fun _ => rfl) ?_
          by_cases h108 : (dp : Int) < 5
          · refine yi_D_if2 true rfl (yi_lt_t h108) ?_
            refine yi_D_run 1 (125, [(4, .inl 1), (3, .inl 0), (2, .inl (K a)), (0, .inr (.inr (some 11))), (1, .inl (dp : Int))], [.inr (.inr (some 11))], (I, L, R, Y), 0, 0) (fun _ => rfl) ?_
            refine yi_D_gi (v := 0) rfl rfl rfl hf (fun _ => ?_)
            refine yi_D_if1 true rfl (by decide) ?_
            refine yi_D_run 2 (135, [(4, .inl 1), (3, .inl 0), (2, .inl (K a)), (0, .inr (.inr (some 11))), (1, .inl (dp : Int))], [.inl 30, .inl (K a)], (I, L, R, Y), 0, 0) (fun _ => rfl) ?_
            have h109 : ¬ ((K a) = 30) := by omega
            refine yi_D_if2 true rfl (yi_ne_t h109) ?_
            refine yi_D_run 2 (160, [(4, .inl 1), (3, .inl 0), (2, .inl (K a)), (0, .inr (.inr (some 11))), (1, .inl (dp : Int))], [.inl 40, .inl (K a)], (I, L, R, Y), 0, 0) (fun _ => rfl) ?_
            have h110 : ¬ ((K a) = 40) := by omega
            refine yi_D_if2 true rfl (yi_ne_t h110) ?_
            refine yi_D_run 1 (184, [(4, .inl 1), (3, .inl 0), (2, .inl (K a)), (0, .inr (.inr (some 11))), (1, .inl (dp : Int))], [.inl 0], (I, L, R, Y), 0, 0) (fun _ => rfl) ?_
            refine yi_D_if1 true rfl (by decide) ?_
            refine yi_D_run 1 (195, [(4, .inl 1), (3, .inl 0), (2, .inl (K a)), (0, .inr (.inr (some 11))), (1, .inl (dp : Int))], [.inr (.inr (some 11))], (I, L, R, Y), 0, 0) (fun _ => rfl) ?_
            refine yi_D_callv rfl (p_readSingleC hW hf hA (by omega) (by omega) hda hcc (by omega)) ?_
            rintro _ ⟨I111, L112, rfl, hFr113, (⟨a114, x115, hs116, hf117, hA118, hcc119⟩ | ⟨f120, hs121, hz122, he123⟩)⟩
            · have hW124 := cs_W_t hW hFr113
              have hF125 := hFr113
              have hF126 : ∀ p k, (p ≠ 11 ∧ p ≠ 19) → I111 p k = I p k := fun p k h => hFr113.1 p k h.1 h.2
              have hR127 : sp_R K P V (3, a, dp, sk, ld, nm, cs) (.inl (4, a114, dp, sk, ld, nm, cs ++ [(11, x115)])) := sp_R_1 (by
                show sp_item K P V a dp sk ld nm cs = _
                unfold sp_item
                repeat (first | rw [if_pos (by omega)] | rw [if_neg (by omega)])
                unfold sp_cl
                rw [if_neg (by omega), hs116])
              have lt128 : a < a114 := sp_single_lt hs116
              have hlnhcc119 := List.length_append (as := cs) (bs := [((11 : Int), x115)])
              rw [List.length_singleton] at hlnhcc119
              show yi_D zi_Ms d zi_m257 k (198, [(4, .inl 1), (3, .inl 0), (2, .inl (K a)), (0, .inr (.inr (some 11))), (1, .inl (dp : Int))], [], (I111, L112, R, Y), 0, 0) _
              refine yi_D_retv rfl ?_
              exact ⟨_, _, rfl, hF125, Or.inl ⟨_, _, hR127, by omega, hf117, hA118, hcc119, by omega⟩⟩
            · have hW129 := cs_W_t hW hFr113
              have hF130 := hFr113
              have hF131 : ∀ p k, (p ≠ 11 ∧ p ≠ 19) → I111 p k = I p k := fun p k h => hFr113.1 p k h.1 h.2
              have hn132 : ¬ I111 11 11 = 0 := by rw [he123]; exact hz122
              have hx133 : sp_R K P V (3, a, dp, sk, ld, nm, cs) (.inr f120) := sp_R_1 (by
                show sp_item K P V a dp sk ld nm cs = _
                unfold sp_item
                repeat (first | rw [if_pos (by omega)] | rw [if_neg (by omega)])
                unfold sp_cl
                rw [if_neg (by omega), hs121])
              show yi_D zi_Ms d zi_m257 k (198, [(4, .inl 1), (3, .inl 0), (2, .inl (K a)), (0, .inr (.inr (some 11))), (1, .inl (dp : Int))], [], (I111, L112, R, Y), 0, 0) _
              refine yi_D_retv rfl ?_
              exact ⟨_, _, rfl, hF130, Or.inr ⟨_, hx133, hz122, he123⟩⟩
          · refine yi_D_if2 false rfl (yi_lt_f h108) ?_
            refine yi_D_run 2 (121, [(4, .inl 1), (3, .inl 0), (2, .inl (K a)), (0, .inr (.inr (some 11))), (1, .inl (dp : Int))], [.inl 5, .inr (.inr (some 11))], (I, L, R, Y), 0, 0) (fun _ => rfl) ?_
            refine yi_D_callv rfl (p_wrong_z ⟨by omega, by omega⟩ hW hf hA) ?_
            rintro _ ⟨I134, rfl, hg135, he136⟩
            have hGw137 : cs_G I L I134 L := ⟨fun p k hp => hg135 p k (by omega), fun _ _ _ => rfl⟩
            have hW138 := cs_W_t hW (cs_G_F hGw137)
            have hF139 := (cs_G_F hGw137)
            have hG140 := hGw137
            have hz141 : ¬ sp_f P a 5 = 0 := sp_f_ne hW hA.2.1 (by omega)
            have hn142 : ¬ I134 11 11 = 0 := by rw [he136]; exact hz141
            have hx143 : sp_R K P V (3, a, dp, sk, ld, nm, cs) (.inr (sp_f P a 5)) := sp_R_1 (by
              show sp_item K P V a dp sk ld nm cs = _
              first
              | (exfalso; omega)
              | (unfold sp_item; repeat (first | rw [if_pos (by omega)] | rw [if_neg (by omega)])))
            show yi_D zi_Ms d zi_m257 k (124, [(4, .inl 1), (3, .inl 0), (2, .inl (K a)), (0, .inr (.inr (some 11))), (1, .inl (dp : Int))], [], (I134, L, R, Y), 0, 0) _
            refine yi_D_run 1 (125, [(4, .inl 1), (3, .inl 0), (2, .inl (K a)), (0, .inr (.inr (some 11))), (1, .inl (dp : Int))], [.inr (.inr (some 11))], (I134, L, R, Y), 0, 0) (fun _ => rfl) ?_
            refine yi_D_gi (v := I134 11 11) rfl rfl rfl rfl (fun _ => ?_)
            have h144 : ¬ ((I134 11 11) = 0) := by omega
            refine yi_D_if1 false rfl (yi_eq_f h144) ?_
            refine yi_D_retv rfl ?_
            exact ⟨_, _, rfl, hF139, Or.inr ⟨_, hx143, hz141, he136⟩⟩
      · refine yi_D_if2 false rfl (yi_eq_f h89) ?_
        refine yi_D_run 2 (31, [(3, .inl 0), (2, .inl (K a)), (0, .inr (.inr (some 11))), (1, .inl (dp : Int))], [.inl 14, .inl (K a)], (I, L, R, Y), 0, 0) (fun _ => rfl) ?_
        by_cases h145 : (K a) = 14
        · refine yi_D_if2 true rfl (yi_eq_t h145) ?_
          refine yi_D_run 5 (50, [(4, .inl 1), (3, .inl 0), (2, .inl (K a)), (0, .inr (.inr (some 11))), (1, .inl (dp : Int))], [.inl 30, .inl (K a)], (I, L, R, Y), 0, 0) (fun _ => rfl) ?_
          have h146 : ¬ ((K a) = 30) := by omega
          refine yi_D_if2 false rfl (yi_eq_f h146) ?_
          refine yi_D_run 2 (56, [(4, .inl 1), (3, .inl 0), (2, .inl (K a)), (0, .inr (.inr (some 11))), (1, .inl (dp : Int))], [.inl 40, .inl (K a)], (I, L, R, Y), 0, 0) (fun _ => rfl) ?_
          have h147 : ¬ ((K a) = 40) := by omega
          refine yi_D_if2 false rfl (yi_eq_f h147) ?_
          refine yi_D_run 1 (60, [(4, .inl 1), (3, .inl 0), (2, .inl (K a)), (0, .inr (.inr (some 11))), (1, .inl (dp : Int))], [.inl 0], (I, L, R, Y), 0, 0) (fun _ => rfl) ?_
          refine yi_D_if1 false rfl (by decide) ?_
          refine yi_D_run 1 (65, [(4, .inl 1), (3, .inl 0), (2, .inl (K a)), (0, .inr (.inr (some 11))), (1, .inl (dp : Int))], [.inl 1], (I, L, R, Y), 0, 0) (fun _ => rfl) ?_
          refine yi_D_if1 true rfl (by decide) ?_
          refine yi_D_run 2 (78, [(4, .inl 1), (3, .inl 0), (2, .inl (K a)), (0, .inr (.inr (some 11))), (1, .inl (dp : Int))], [.inl 3, .inl (K a)], (I, L, R, Y), 0, 0) (fun _ => rfl) ?_
          have h148 : ¬ ((K a) = 3) := by omega
          refine yi_D_if2 true rfl (yi_ne_t h148) ?_
          refine yi_D_run 2 (116, [(4, .inl 1), (3, .inl 0), (2, .inl (K a)), (0, .inr (.inr (some 11))), (1, .inl (dp : Int))], [.inl 5, .inl (dp : Int)], (I, L, R, Y), 0, 0) (fun _ => rfl) ?_
          by_cases h149 : (dp : Int) < 5
          · refine yi_D_if2 true rfl (yi_lt_t h149) ?_
            refine yi_D_run 1 (125, [(4, .inl 1), (3, .inl 0), (2, .inl (K a)), (0, .inr (.inr (some 11))), (1, .inl (dp : Int))], [.inr (.inr (some 11))], (I, L, R, Y), 0, 0) (fun _ => rfl) ?_
            refine yi_D_gi (v := 0) rfl rfl rfl hf (fun _ => ?_)
            refine yi_D_if1 true rfl (by decide) ?_
            refine yi_D_run 2 (135, [(4, .inl 1), (3, .inl 0), (2, .inl (K a)), (0, .inr (.inr (some 11))), (1, .inl (dp : Int))], [.inl 30, .inl (K a)], (I, L, R, Y), 0, 0) (fun _ => rfl) ?_
            have h150 : ¬ ((K a) = 30) := by omega
            refine yi_D_if2 true rfl (yi_ne_t h150) ?_
            refine yi_D_run 2 (160, [(4, .inl 1), (3, .inl 0), (2, .inl (K a)), (0, .inr (.inr (some 11))), (1, .inl (dp : Int))], [.inl 40, .inl (K a)], (I, L, R, Y), 0, 0) (fun _ => rfl) ?_
            have h151 : ¬ ((K a) = 40) := by omega
            refine yi_D_if2 true rfl (yi_ne_t h151) ?_
            refine yi_D_run 1 (184, [(4, .inl 1), (3, .inl 0), (2, .inl (K a)), (0, .inr (.inr (some 11))), (1, .inl (dp : Int))], [.inl 0], (I, L, R, Y), 0, 0) (fun _ => rfl) ?_
            refine yi_D_if1 true rfl (by decide) ?_
            refine yi_D_run 1 (195, [(4, .inl 1), (3, .inl 0), (2, .inl (K a)), (0, .inr (.inr (some 11))), (1, .inl (dp : Int))], [.inr (.inr (some 11))], (I, L, R, Y), 0, 0) (fun _ => rfl) ?_
            refine yi_D_callv rfl (p_readSingleC hW hf hA (by omega) (by omega) hda hcc (by omega)) ?_
            rintro _ ⟨I152, L153, rfl, hFr154, (⟨a155, x156, hs157, hf158, hA159, hcc160⟩ | ⟨f161, hs162, hz163, he164⟩)⟩
            · have hW165 := cs_W_t hW hFr154
              have hF166 := hFr154
              have hF167 : ∀ p k, (p ≠ 11 ∧ p ≠ 19) → I152 p k = I p k := fun p k h => hFr154.1 p k h.1 h.2
              have hR168 : sp_R K P V (3, a, dp, sk, ld, nm, cs) (.inl (4, a155, dp, sk, ld, nm, cs ++ [(11, x156)])) := sp_R_1 (by
                show sp_item K P V a dp sk ld nm cs = _
                unfold sp_item
                repeat (first | rw [if_pos (by omega)] | rw [if_neg (by omega)])
                unfold sp_cl
                rw [if_neg (by omega), hs157])
              have lt169 : a < a155 := sp_single_lt hs157
              have hlnhcc160 := List.length_append (as := cs) (bs := [((11 : Int), x156)])
              rw [List.length_singleton] at hlnhcc160
              show yi_D zi_Ms d zi_m257 k (198, [(4, .inl 1), (3, .inl 0), (2, .inl (K a)), (0, .inr (.inr (some 11))), (1, .inl (dp : Int))], [], (I152, L153, R, Y), 0, 0) _
              refine yi_D_retv rfl ?_
              exact ⟨_, _, rfl, hF166, Or.inl ⟨_, _, hR168, by omega, hf158, hA159, hcc160, by omega⟩⟩
            · have hW170 := cs_W_t hW hFr154
              have hF171 := hFr154
              have hF172 : ∀ p k, (p ≠ 11 ∧ p ≠ 19) → I152 p k = I p k := fun p k h => hFr154.1 p k h.1 h.2
              have hn173 : ¬ I152 11 11 = 0 := by rw [he164]; exact hz163
              have hx174 : sp_R K P V (3, a, dp, sk, ld, nm, cs) (.inr f161) := sp_R_1 (by
                show sp_item K P V a dp sk ld nm cs = _
                unfold sp_item
                repeat (first | rw [if_pos (by omega)] | rw [if_neg (by omega)])
                unfold sp_cl
                rw [if_neg (by omega), hs162])
              show yi_D zi_Ms d zi_m257 k (198, [(4, .inl 1), (3, .inl 0), (2, .inl (K a)), (0, .inr (.inr (some 11))), (1, .inl (dp : Int))], [], (I152, L153, R, Y), 0, 0) _
              refine yi_D_retv rfl ?_
              exact ⟨_, _, rfl, hF171, Or.inr ⟨_, hx174, hz163, he164⟩⟩
          · refine yi_D_if2 false rfl (yi_lt_f h149) ?_
            refine yi_D_run 2 (121, [(4, .inl 1), (3, .inl 0), (2, .inl (K a)), (0, .inr (.inr (some 11))), (1, .inl (dp : Int))], [.inl 5, .inr (.inr (some 11))], (I, L, R, Y), 0, 0) (fun _ => rfl) ?_
            refine yi_D_callv rfl (p_wrong_z ⟨by omega, by omega⟩ hW hf hA) ?_
            rintro _ ⟨I175, rfl, hg176, he177⟩
            have hGw178 : cs_G I L I175 L := ⟨fun p k hp => hg176 p k (by omega), fun _ _ _ => rfl⟩
            have hW179 := cs_W_t hW (cs_G_F hGw178)
            have hF180 := (cs_G_F hGw178)
            have hG181 := hGw178
            have hz182 : ¬ sp_f P a 5 = 0 := sp_f_ne hW hA.2.1 (by omega)
            have hn183 : ¬ I175 11 11 = 0 := by rw [he177]; exact hz182
            have hx184 : sp_R K P V (3, a, dp, sk, ld, nm, cs) (.inr (sp_f P a 5)) := sp_R_1 (by
              show sp_item K P V a dp sk ld nm cs = _
              first
              | (exfalso; omega)
              | (unfold sp_item; repeat (first | rw [if_pos (by omega)] | rw [if_neg (by omega)])))
            show yi_D zi_Ms d zi_m257 k (124, [(4, .inl 1), (3, .inl 0), (2, .inl (K a)), (0, .inr (.inr (some 11))), (1, .inl (dp : Int))], [], (I175, L, R, Y), 0, 0) _
            refine yi_D_run 1 (125, [(4, .inl 1), (3, .inl 0), (2, .inl (K a)), (0, .inr (.inr (some 11))), (1, .inl (dp : Int))], [.inr (.inr (some 11))], (I175, L, R, Y), 0, 0) (fun _ => rfl) ?_
            refine yi_D_gi (v := I175 11 11) rfl rfl rfl rfl (fun _ => ?_)
            have h185 : ¬ ((I175 11 11) = 0) := by omega
            refine yi_D_if1 false rfl (yi_eq_f h185) ?_
            refine yi_D_retv rfl ?_
            exact ⟨_, _, rfl, hF180, Or.inr ⟨_, hx184, hz182, he177⟩⟩
        · refine yi_D_if2 false rfl (yi_eq_f h145) ?_
          refine yi_D_run 2 (37, [(3, .inl 0), (2, .inl (K a)), (0, .inr (.inr (some 11))), (1, .inl (dp : Int))], [.inl 15, .inl (K a)], (I, L, R, Y), 0, 0) (fun _ => rfl) ?_
          by_cases h186 : (K a) = 15
          · refine yi_D_if2 false rfl (yi_ne_f h186) ?_
            refine yi_D_run 5 (50, [(4, .inl 1), (3, .inl 0), (2, .inl (K a)), (0, .inr (.inr (some 11))), (1, .inl (dp : Int))], [.inl 30, .inl (K a)], (I, L, R, Y), 0, 0) (fun _ => rfl) ?_
            have h187 : ¬ ((K a) = 30) := by omega
            refine yi_D_if2 false rfl (yi_eq_f h187) ?_
            refine yi_D_run 2 (56, [(4, .inl 1), (3, .inl 0), (2, .inl (K a)), (0, .inr (.inr (some 11))), (1, .inl (dp : Int))], [.inl 40, .inl (K a)], (I, L, R, Y), 0, 0) (fun _ => rfl) ?_
            have h188 : ¬ ((K a) = 40) := by omega
            refine yi_D_if2 false rfl (yi_eq_f h188) ?_
            refine yi_D_run 1 (60, [(4, .inl 1), (3, .inl 0), (2, .inl (K a)), (0, .inr (.inr (some 11))), (1, .inl (dp : Int))], [.inl 0], (I, L, R, Y), 0, 0) (fun _ => rfl) ?_
            refine yi_D_if1 false rfl (by decide) ?_
            refine yi_D_run 1 (65, [(4, .inl 1), (3, .inl 0), (2, .inl (K a)), (0, .inr (.inr (some 11))), (1, .inl (dp : Int))], [.inl 1], (I, L, R, Y), 0, 0) (fun _ => rfl) ?_
            refine yi_D_if1 true rfl (by decide) ?_
            refine yi_D_run 2 (78, [(4, .inl 1), (3, .inl 0), (2, .inl (K a)), (0, .inr (.inr (some 11))), (1, .inl (dp : Int))], [.inl 3, .inl (K a)], (I, L, R, Y), 0, 0) (fun _ => rfl) ?_
            have h189 : ¬ ((K a) = 3) := by omega
            refine yi_D_if2 true rfl (yi_ne_t h189) ?_
            refine yi_D_run 2 (116, [(4, .inl 1), (3, .inl 0), (2, .inl (K a)), (0, .inr (.inr (some 11))), (1, .inl (dp : Int))], [.inl 5, .inl (dp : Int)], (I, L, R, Y), 0, 0) (fun _ => rfl) ?_
            by_cases h190 : (dp : Int) < 5
            · refine yi_D_if2 true rfl (yi_lt_t h190) ?_
              refine yi_D_run 1 (125, [(4, .inl 1), (3, .inl 0), (2, .inl (K a)), (0, .inr (.inr (some 11))), (1, .inl (dp : Int))], [.inr (.inr (some 11))], (I, L, R, Y), 0, 0) (fun _ => rfl) ?_
              refine yi_D_gi (v := 0) rfl rfl rfl hf (fun _ => ?_)
              refine yi_D_if1 true rfl (by decide) ?_
              refine yi_D_run 2 (135, [(4, .inl 1), (3, .inl 0), (2, .inl (K a)), (0, .inr (.inr (some 11))), (1, .inl (dp : Int))], [.inl 30, .inl (K a)], (I, L, R, Y), 0, 0) (fun _ => rfl) ?_
              have h191 : ¬ ((K a) = 30) := by omega
              refine yi_D_if2 true rfl (yi_ne_t h191) ?_
              refine yi_D_run 2 (160, [(4, .inl 1), (3, .inl 0), (2, .inl (K a)), (0, .inr (.inr (some 11))), (1, .inl (dp : Int))], [.inl 40, .inl (K a)], (I, L, R, Y), 0, 0) (fun _ => rfl) ?_
              have h192 : ¬ ((K a) = 40) := by omega
              refine yi_D_if2 true rfl (yi_ne_t h192) ?_
              refine yi_D_run 1 (184, [(4, .inl 1), (3, .inl 0), (2, .inl (K a)), (0, .inr (.inr (some 11))), (1, .inl (dp : Int))], [.inl 0], (I, L, R, Y), 0, 0) (fun _ => rfl) ?_
              refine yi_D_if1 true rfl (by decide) ?_
              refine yi_D_run 1 (195, [(4, .inl 1), (3, .inl 0), (2, .inl (K a)), (0, .inr (.inr (some 11))), (1, .inl (dp : Int))], [.inr (.inr (some 11))], (I, L, R, Y), 0, 0) (fun _ => rfl) ?_
              refine yi_D_callv rfl (p_readSingleC hW hf hA (by omega) (by omega) hda hcc (by omega)) ?_
              rintro _ ⟨I193, L194, rfl, hFr195, (⟨a196, x197, hs198, hf199, hA200, hcc201⟩ | ⟨f202, hs203, hz204, he205⟩)⟩
              · have hW206 := cs_W_t hW hFr195
                have hF207 := hFr195
                have hF208 : ∀ p k, (p ≠ 11 ∧ p ≠ 19) → I193 p k = I p k := fun p k h => hFr195.1 p k h.1 h.2
                have hR209 : sp_R K P V (3, a, dp, sk, ld, nm, cs) (.inl (4, a196, dp, sk, ld, nm, cs ++ [(11, x197)])) := sp_R_1 (by
                  show sp_item K P V a dp sk ld nm cs = _
                  unfold sp_item
                  repeat (first | rw [if_pos (by omega)] | rw [if_neg (by omega)])
                  unfold sp_cl
                  rw [if_neg (by omega), hs198])
                have lt210 : a < a196 := sp_single_lt hs198
                have hlnhcc201 := List.length_append (as := cs) (bs := [((11 : Int), x197)])
                rw [List.length_singleton] at hlnhcc201
                show yi_D zi_Ms d zi_m257 k (198, [(4, .inl 1), (3, .inl 0), (2, .inl (K a)), (0, .inr (.inr (some 11))), (1, .inl (dp : Int))], [], (I193, L194, R, Y), 0, 0) _
                refine yi_D_retv rfl ?_
                exact ⟨_, _, rfl, hF207, Or.inl ⟨_, _, hR209, by omega, hf199, hA200, hcc201, by omega⟩⟩
              · have hW211 := cs_W_t hW hFr195
                have hF212 := hFr195
                have hF213 : ∀ p k, (p ≠ 11 ∧ p ≠ 19) → I193 p k = I p k := fun p k h => hFr195.1 p k h.1 h.2
                have hn214 : ¬ I193 11 11 = 0 := by rw [he205]; exact hz204
                have hx215 : sp_R K P V (3, a, dp, sk, ld, nm, cs) (.inr f202) := sp_R_1 (by
                  show sp_item K P V a dp sk ld nm cs = _
                  unfold sp_item
                  repeat (first | rw [if_pos (by omega)] | rw [if_neg (by omega)])
                  unfold sp_cl
                  rw [if_neg (by omega), hs203])
                show yi_D zi_Ms d zi_m257 k (198, [(4, .inl 1), (3, .inl 0), (2, .inl (K a)), (0, .inr (.inr (some 11))), (1, .inl (dp : Int))], [], (I193, L194, R, Y), 0, 0) _
                refine yi_D_retv rfl ?_
                exact ⟨_, _, rfl, hF212, Or.inr ⟨_, hx215, hz204, he205⟩⟩
            · refine yi_D_if2 false rfl (yi_lt_f h190) ?_
              refine yi_D_run 2 (121, [(4, .inl 1), (3, .inl 0), (2, .inl (K a)), (0, .inr (.inr (some 11))), (1, .inl (dp : Int))], [.inl 5, .inr (.inr (some 11))], (I, L, R, Y), 0, 0) (fun _ => rfl) ?_
              refine yi_D_callv rfl (p_wrong_z ⟨by omega, by omega⟩ hW hf hA) ?_
              rintro _ ⟨I216, rfl, hg217, he218⟩
              have hGw219 : cs_G I L I216 L := ⟨fun p k hp => hg217 p k (by omega), fun _ _ _ => rfl⟩
              have hW220 := cs_W_t hW (cs_G_F hGw219)
              have hF221 := (cs_G_F hGw219)
              have hG222 := hGw219
              have hz223 : ¬ sp_f P a 5 = 0 := sp_f_ne hW hA.2.1 (by omega)
              have hn224 : ¬ I216 11 11 = 0 := by rw [he218]; exact hz223
              have hx225 : sp_R K P V (3, a, dp, sk, ld, nm, cs) (.inr (sp_f P a 5)) := sp_R_1 (by
                show sp_item K P V a dp sk ld nm cs = _
                first
                | (exfalso; omega)
                | (unfold sp_item; repeat (first | rw [if_pos (by omega)] | rw [if_neg (by omega)])))
              show yi_D zi_Ms d zi_m257 k (124, [(4, .inl 1), (3, .inl 0), (2, .inl (K a)), (0, .inr (.inr (some 11))), (1, .inl (dp : Int))], [], (I216, L, R, Y), 0, 0) _
              refine yi_D_run 1 (125, [(4, .inl 1), (3, .inl 0), (2, .inl (K a)), (0, .inr (.inr (some 11))), (1, .inl (dp : Int))], [.inr (.inr (some 11))], (I216, L, R, Y), 0, 0) (fun _ => rfl) ?_
              refine yi_D_gi (v := I216 11 11) rfl rfl rfl rfl (fun _ => ?_)
              have h226 : ¬ ((I216 11 11) = 0) := by omega
              refine yi_D_if1 false rfl (yi_eq_f h226) ?_
              refine yi_D_retv rfl ?_
              exact ⟨_, _, rfl, hF221, Or.inr ⟨_, hx225, hz223, he218⟩⟩
          · refine yi_D_if2 true rfl (yi_ne_t h186) ?_
            refine yi_D_run 4 (50, [(4, .inl 0), (3, .inl 0), (2, .inl (K a)), (0, .inr (.inr (some 11))), (1, .inl (dp : Int))], [.inl 30, .inl (K a)], (I, L, R, Y), 0, 0) (fun _ => rfl) ?_
            by_cases h227 : (K a) = 30
            · refine yi_D_if2 true rfl (yi_eq_t h227) ?_
              refine yi_D_run 2 (78, [(4, .inl 0), (3, .inl 0), (2, .inl (K a)), (0, .inr (.inr (some 11))), (1, .inl (dp : Int))], [.inl 3, .inl (K a)], (I, L, R, Y), 0, 0) (fun _ => rfl) ?_
              have h228 : ¬ ((K a) = 3) := by omega
              refine yi_D_if2 true rfl (yi_ne_t h228) ?_
              refine yi_D_run 2 (116, [(4, .inl 0), (3, .inl 0), (2, .inl (K a)), (0, .inr (.inr (some 11))), (1, .inl (dp : Int))], [.inl 5, .inl (dp : Int)], (I, L, R, Y), 0, 0) (fun _ => rfl) ?_
              by_cases h229 : (dp : Int) < 5
              · refine yi_D_if2 true rfl (yi_lt_t h229) ?_
                refine yi_D_run 1 (125, [(4, .inl 0), (3, .inl 0), (2, .inl (K a)), (0, .inr (.inr (some 11))), (1, .inl (dp : Int))], [.inr (.inr (some 11))], (I, L, R, Y), 0, 0) (fun _ => rfl) ?_
                refine yi_D_gi (v := 0) rfl rfl rfl hf (fun _ => ?_)
                refine yi_D_if1 true rfl (by decide) ?_
                refine yi_D_run 2 (135, [(4, .inl 0), (3, .inl 0), (2, .inl (K a)), (0, .inr (.inr (some 11))), (1, .inl (dp : Int))], [.inl 30, .inl (K a)], (I, L, R, Y), 0, 0) (fun _ => rfl) ?_
                have h230 : (K a) = 30 := by omega
                refine yi_D_if2 false rfl (yi_ne_f h230) ?_
                refine yi_D_run 1 (139, [(4, .inl 0), (3, .inl 0), (2, .inl (K a)), (0, .inr (.inr (some 11))), (1, .inl (dp : Int))], [.inr (.inr (some 11))], (I, L, R, Y), 0, 0) (fun _ => rfl) ?_
                refine yi_D_callv rfl (p_advance_z hW hf hA) ?_
                rintro _ ⟨I231, L232, rfl, hGa233, hf234, hA235⟩
                rw [sp_nx_lt (cs_lt hW.2.1 hA.2.1 (by omega))] at hA235
                have hA235 : cs_A I231 L232 K te (a + 1) := hA235
                have hW236 := cs_W_t hW (cs_G_F hGa233)
                have hF237 := (cs_G_F hGa233)
                have hG238 := hGa233
                have hcc239 := cc_G hcc hGa233
                show yi_D zi_Ms d zi_m257 k (142, [(4, .inl 0), (3, .inl 0), (2, .inl (K a)), (0, .inr (.inr (some 11))), (1, .inl (dp : Int))], [], (I231, L232, R, Y), 0, 0) _
                refine yi_D_run 3 (145, [(4, .inl 0), (3, .inl 0), (2, .inl (K a)), (0, .inr (.inr (some 11))), (1, .inl (dp : Int))], [.inl 1, .inl (dp : Int), .inr (.inr (some 11))], (I231, L232, R, Y), 0, 0) (fun _ => rfl) ?_
                refine yi_D_iadd rfl ((dp : Int) + 1) (yi_wn (by omega) (by omega)) ?_
                have hst240 : sp_R K P V (3, a, dp, sk, ld, nm, cs) (.inl (3, a + 1, dp + 1, 0 :: sk, ld, nm, cs)) := sp_R_1 (by
                  show sp_item K P V a dp sk ld nm cs = _
                  unfold sp_item
                  repeat (first | rw [if_pos (by omega)] | rw [if_neg (by omega)]))
                refine yi_D_callv rfl (hRI (dp + 1) (0 :: sk) cs hW236 hf234 hA235 (by omega) hda hcc239 (by omega)) ?_
                rintro _ ⟨I241, L242, rfl, hFr243, (⟨a244, cs245, hR246, lt247, hf248, hA249, hcc250, ll251⟩ | ⟨f252, hR253, hz254, he255⟩)⟩
                · have hW256 := cs_W_t hW236 hFr243
                  have hF257 := cs_F_t hF237 hFr243
                  have hF258 : ∀ p k, (p ≠ 11 ∧ p ≠ 19) → I241 p k = I231 p k := fun p k h => hFr243.1 p k h.1 h.2
                  have hlehA249 := hA249.2.1
                  have hclhcc250 := cc_le hcc250
                  have hR259 : sp_R K P V (3, a, dp, sk, ld, nm, cs) (.inl (4, a244, dp, sk, ld, nm, cs245 ++ [(3, 0)])) := sp_R_s (sp_R_t hst240 hR246) rfl
                  show yi_D zi_Ms d zi_m257 k (149, [(4, .inl 0), (3, .inl 0), (2, .inl (K a)), (0, .inr (.inr (some 11))), (1, .inl (dp : Int))], [], (I241, L242, R, Y), 0, 0) _
                  refine yi_D_run 2 (151, [(4, .inl 0), (3, .inl 0), (2, .inl (K a)), (0, .inr (.inr (some 11))), (1, .inl (dp : Int))], [.inl 1, .inr (.inr (some 11))], (I241, L242, R, Y), 0, 0) (fun _ => rfl) ?_
                  refine yi_D_callv rfl (p_emitC hW256 hf248 (cc_u hcc250) (by omega)) ?_
                  rintro _ ⟨I260, rfl, hE261⟩
                  have hE262 := cc_E_E hE261
                  have hcc263 := cc_push hcc250 hE261 (x := (3, 0)) trF_3 rfl (by decide)
                  have hlnhcc263 := List.length_append (as := cs245) (bs := [(3, 0)])
                  rw [List.length_singleton] at hlnhcc263
                  have hW264 := cs_W_t hW256 (cs_E_F (L := L242) hE262)
                  have hF265 := cs_F_t hF257 (cs_E_F hE262)
                  have hf266 : I260 11 11 = 0 := (hE262 11 11 (by omega) (by omega)).trans hf248
                  have hA267 := cs_A_e hA249 hE262
                  show yi_D zi_Ms d zi_m257 k (154, [(4, .inl 0), (3, .inl 0), (2, .inl (K a)), (0, .inr (.inr (some 11))), (1, .inl (dp : Int))], [], (I260, L242, R, Y), 0, 0) _
                  refine yi_D_run 1 (198, [(4, .inl 0), (3, .inl 0), (2, .inl (K a)), (0, .inr (.inr (some 11))), (1, .inl (dp : Int))], [], (I260, L242, R, Y), 0, 0) (fun _ => rfl) ?_
                  refine yi_D_retv rfl ?_
                  exact ⟨_, _, rfl, hF265, Or.inl ⟨_, _, hR259, by omega, hf266, hA267, hcc263, by omega⟩⟩
                · have hW268 := cs_W_t hW236 hFr243
                  have hF269 := cs_F_t hF237 hFr243
                  have hF270 : ∀ p k, (p ≠ 11 ∧ p ≠ 19) → I241 p k = I231 p k := fun p k h => hFr243.1 p k h.1 h.2
                  have hn271 : ¬ I241 11 11 = 0 := by rw [he255]; exact hz254
                  have hx272 : sp_R K P V (3, a, dp, sk, ld, nm, cs) (.inr f252) := sp_R_t hst240 hR253
                  show yi_D zi_Ms d zi_m257 k (149, [(4, .inl 0), (3, .inl 0), (2, .inl (K a)), (0, .inr (.inr (some 11))), (1, .inl (dp : Int))], [], (I241, L242, R, Y), 0, 0) _
                  refine yi_D_run 2 (151, [(4, .inl 0), (3, .inl 0), (2, .inl (K a)), (0, .inr (.inr (some 11))), (1, .inl (dp : Int))], [.inl 1, .inr (.inr (some 11))], (I241, L242, R, Y), 0, 0) (fun _ => rfl) ?_
                  refine yi_D_callv rfl (p_emit hW268) ?_
                  rintro _ ⟨I273, rfl, hE274⟩
                  have hW275 := cs_W_t hW268 (cs_E_F (L := L242) hE274)
                  have hF276 := cs_F_t hF269 (cs_E_F hE274)
                  have hf277 : ¬ I273 11 11 = 0 := by rw [hE274 11 11 (by omega) (by omega)]; exact hn271
                  have he278 := (hE274 11 11 (by omega) (by omega)).trans he255
                  show yi_D zi_Ms d zi_m257 k (154, [(4, .inl 0), (3, .inl 0), (2, .inl (K a)), (0, .inr (.inr (some 11))), (1, .inl (dp : Int))], [], (I273, L242, R, Y), 0, 0) _
                  refine yi_D_run 1 (198, [(4, .inl 0), (3, .inl 0), (2, .inl (K a)), (0, .inr (.inr (some 11))), (1, .inl (dp : Int))], [], (I273, L242, R, Y), 0, 0) (fun _ => rfl) ?_
                  refine yi_D_retv rfl ?_
                  exact ⟨_, _, rfl, hF276, Or.inr ⟨_, hx272, hz254, he278⟩⟩
              · refine yi_D_if2 false rfl (yi_lt_f h229) ?_
                refine yi_D_run 2 (121, [(4, .inl 0), (3, .inl 0), (2, .inl (K a)), (0, .inr (.inr (some 11))), (1, .inl (dp : Int))], [.inl 5, .inr (.inr (some 11))], (I, L, R, Y), 0, 0) (fun _ => rfl) ?_
                refine yi_D_callv rfl (p_wrong_z ⟨by omega, by omega⟩ hW hf hA) ?_
                rintro _ ⟨I279, rfl, hg280, he281⟩
                have hGw282 : cs_G I L I279 L := ⟨fun p k hp => hg280 p k (by omega), fun _ _ _ => rfl⟩
                have hW283 := cs_W_t hW (cs_G_F hGw282)
                have hF284 := (cs_G_F hGw282)
                have hG285 := hGw282
                have hz286 : ¬ sp_f P a 5 = 0 := sp_f_ne hW hA.2.1 (by omega)
                have hn287 : ¬ I279 11 11 = 0 := by rw [he281]; exact hz286
                have hx288 : sp_R K P V (3, a, dp, sk, ld, nm, cs) (.inr (sp_f P a 5)) := sp_R_1 (by
                  show sp_item K P V a dp sk ld nm cs = _
                  first
                  | (exfalso; omega)
                  | (unfold sp_item; repeat (first | rw [if_pos (by omega)] | rw [if_neg (by omega)])))
                show yi_D zi_Ms d zi_m257 k (124, [(4, .inl 0), (3, .inl 0), (2, .inl (K a)), (0, .inr (.inr (some 11))), (1, .inl (dp : Int))], [], (I279, L, R, Y), 0, 0) _
                refine yi_D_run 1 (125, [(4, .inl 0), (3, .inl 0), (2, .inl (K a)), (0, .inr (.inr (some 11))), (1, .inl (dp : Int))], [.inr (.inr (some 11))], (I279, L, R, Y), 0, 0) (fun _ => rfl) ?_
                refine yi_D_gi (v := I279 11 11) rfl rfl rfl rfl (fun _ => ?_)
                have h289 : ¬ ((I279 11 11) = 0) := by omega
                refine yi_D_if1 false rfl (yi_eq_f h289) ?_
                refine yi_D_retv rfl ?_
                exact ⟨_, _, rfl, hF284, Or.inr ⟨_, hx288, hz286, he281⟩⟩
            · refine yi_D_if2 false rfl (yi_eq_f h227) ?_
              refine yi_D_run 2 (56, [(4, .inl 0), (3, .inl 0), (2, .inl (K a)), (0, .inr (.inr (some 11))), (1, .inl (dp : Int))], [.inl 40, .inl (K a)], (I, L, R, Y), 0, 0) (fun _ => rfl) ?_
              by_cases h290 : (K a) = 40
              · refine yi_D_if2 true rfl (yi_eq_t h290) ?_
                refine yi_D_run 2 (78, [(4, .inl 0), (3, .inl 0), (2, .inl (K a)), (0, .inr (.inr (some 11))), (1, .inl (dp : Int))], [.inl 3, .inl (K a)], (I, L, R, Y), 0, 0) (fun _ => rfl) ?_
                have h291 : ¬ ((K a) = 3) := by omega
                refine yi_D_if2 true rfl (yi_ne_t h291) ?_
                refine yi_D_run 2 (116, [(4, .inl 0), (3, .inl 0), (2, .inl (K a)), (0, .inr (.inr (some 11))), (1, .inl (dp : Int))], [.inl 5, .inl (dp : Int)], (I, L, R, Y), 0, 0) (fun _ => rfl) ?_
                by_cases h292 : (dp : Int) < 5
                · refine yi_D_if2 true rfl (yi_lt_t h292) ?_
                  refine yi_D_run 1 (125, [(4, .inl 0), (3, .inl 0), (2, .inl (K a)), (0, .inr (.inr (some 11))), (1, .inl (dp : Int))], [.inr (.inr (some 11))], (I, L, R, Y), 0, 0) (fun _ => rfl) ?_
                  refine yi_D_gi (v := 0) rfl rfl rfl hf (fun _ => ?_)
                  refine yi_D_if1 true rfl (by decide) ?_
                  refine yi_D_run 2 (135, [(4, .inl 0), (3, .inl 0), (2, .inl (K a)), (0, .inr (.inr (some 11))), (1, .inl (dp : Int))], [.inl 30, .inl (K a)], (I, L, R, Y), 0, 0) (fun _ => rfl) ?_
                  have h293 : ¬ ((K a) = 30) := by omega
                  refine yi_D_if2 true rfl (yi_ne_t h293) ?_
                  refine yi_D_run 2 (160, [(4, .inl 0), (3, .inl 0), (2, .inl (K a)), (0, .inr (.inr (some 11))), (1, .inl (dp : Int))], [.inl 40, .inl (K a)], (I, L, R, Y), 0, 0) (fun _ => rfl) ?_
                  have h294 : (K a) = 40 := by omega
                  refine yi_D_if2 false rfl (yi_ne_f h294) ?_
                  refine yi_D_run 1 (164, [(4, .inl 0), (3, .inl 0), (2, .inl (K a)), (0, .inr (.inr (some 11))), (1, .inl (dp : Int))], [.inr (.inr (some 11))], (I, L, R, Y), 0, 0) (fun _ => rfl) ?_
                  refine yi_D_callv rfl (p_advance_z hW hf hA) ?_
                  rintro _ ⟨I295, L296, rfl, hGa297, hf298, hA299⟩
                  rw [sp_nx_lt (cs_lt hW.2.1 hA.2.1 (by omega))] at hA299
                  have hA299 : cs_A I295 L296 K te (a + 1) := hA299
                  have hW300 := cs_W_t hW (cs_G_F hGa297)
                  have hF301 := (cs_G_F hGa297)
                  have hG302 := hGa297
                  have hcc303 := cc_G hcc hGa297
                  show yi_D zi_Ms d zi_m257 k (167, [(4, .inl 0), (3, .inl 0), (2, .inl (K a)), (0, .inr (.inr (some 11))), (1, .inl (dp : Int))], [], (I295, L296, R, Y), 0, 0) _
                  refine yi_D_run 3 (170, [(4, .inl 0), (3, .inl 0), (2, .inl (K a)), (0, .inr (.inr (some 11))), (1, .inl (dp : Int))], [.inl 1, .inl (dp : Int), .inr (.inr (some 11))], (I295, L296, R, Y), 0, 0) (fun _ => rfl) ?_
                  refine yi_D_iadd rfl ((dp : Int) + 1) (yi_wn (by omega) (by omega)) ?_
                  have hst304 : sp_R K P V (3, a, dp, sk, ld, nm, cs) (.inl (3, a + 1, dp + 1, 10 :: 1 :: sk, ld, nm, cs)) := sp_R_1 (by
                    show sp_item K P V a dp sk ld nm cs = _
                    unfold sp_item
                    repeat (first | rw [if_pos (by omega)] | rw [if_neg (by omega)]))
                  refine yi_D_callv rfl (hRF (dp + 1) (1 :: sk) cs hW300 hf298 hA299 (by omega) hda hcc303 (by omega)) ?_
                  rintro _ ⟨I305, L306, rfl, hFr307, (⟨a308, cs309, hR310, lt311, hf312, hA313, hcc314, ll315⟩ | ⟨f316, hR317, hz318, he319⟩)⟩
                  · have hW320 := cs_W_t hW300 hFr307
                    have hF321 := cs_F_t hF301 hFr307
                    have hF322 : ∀ p k, (p ≠ 11 ∧ p ≠ 19) → I305 p k = I295 p k := fun p k h => hFr307.1 p k h.1 h.2
                    have hlehA313 := hA313.2.1
                    have hclhcc314 := cc_le hcc314
                    have hR323 := sp_R_t hst304 hR310
                    show yi_D zi_Ms d zi_m257 k (174, [(4, .inl 0), (3, .inl 0), (2, .inl (K a)), (0, .inr (.inr (some 11))), (1, .inl (dp : Int))], [], (I305, L306, R, Y), 0, 0) _
                    refine yi_D_run 2 (177, [(4, .inl 0), (3, .inl 0), (2, .inl (K a)), (0, .inr (.inr (some 11))), (1, .inl (dp : Int))], [.inl 41, .inr (.inr (some 11))], (I305, L306, R, Y), 0, 0) (fun _ => rfl) ?_
                    refine yi_D_callv rfl (p_takeKind_z (by omega) hW320 hf312 hA313) ?_
                    rintro _ (⟨c324, I325, L326, rfl, hGa327, hf328, hA329⟩ | ⟨c330, I331, L332, rfl, hGa333, he334⟩)
                    · have hA329 : cs_A I325 L326 K te (a308 + 1) := hA329
                      have hW335 := cs_W_t hW320 (cs_G_F hGa327)
                      have hF336 := cs_F_t hF321 (cs_G_F hGa327)
                      have hcc337 := cc_G hcc314 hGa327
                      have hR338 : sp_R K P V (3, a, dp, sk, ld, nm, cs) (.inl (4, a308 + 1, dp, sk, ld, nm, cs309)) := sp_R_s hR323 (by
                        show (if K _ = 41 then _ else _) = _
                        rw [if_pos (by omega)]
                        rfl)
                      show yi_D zi_Ms d zi_m257 k (180, [(4, .inl 0), (3, .inl 0), (2, .inl (K a)), (0, .inr (.inr (some 11))), (1, .inl (dp : Int))], [], (I325, L326, R, Y), 0, 0) _
                      refine yi_D_run 1 (198, [(4, .inl 0), (3, .inl 0), (2, .inl (K a)), (0, .inr (.inr (some 11))), (1, .inl (dp : Int))], [], (I325, L326, R, Y), 0, 0) (fun _ => rfl) ?_
                      refine yi_D_retv rfl ?_
                      exact ⟨_, _, rfl, hF336, Or.inl ⟨_, _, hR338, by omega, hf328, hA329, hcc337, by omega⟩⟩
                    · have hW339 := cs_W_t hW320 (cs_G_F hGa333)
                      have hF340 := cs_F_t hF321 (cs_G_F hGa333)
                      have hz341 : ¬ sp_f P a308 1 = 0 := sp_f_ne hW320 hA313.2.1 (by omega)
                      have hn342 : ¬ I331 11 11 = 0 := by rw [he334]; exact hz341
                      have hx343 : sp_R K P V (3, a, dp, sk, ld, nm, cs) (.inr (sp_f P a308 1)) := sp_R_s hR323 (by
                        show (if K _ = _ then _ else _) = _
                        rw [if_neg (by omega)])
                      show yi_D zi_Ms d zi_m257 k (180, [(4, .inl 0), (3, .inl 0), (2, .inl (K a)), (0, .inr (.inr (some 11))), (1, .inl (dp : Int))], [], (I331, L332, R, Y), 0, 0) _
                      refine yi_D_run 1 (198, [(4, .inl 0), (3, .inl 0), (2, .inl (K a)), (0, .inr (.inr (some 11))), (1, .inl (dp : Int))], [], (I331, L332, R, Y), 0, 0) (fun _ => rfl) ?_
                      refine yi_D_retv rfl ?_
                      exact ⟨_, _, rfl, hF340, Or.inr ⟨_, hx343, hz341, he334⟩⟩
                  · have hW344 := cs_W_t hW300 hFr307
                    have hF345 := cs_F_t hF301 hFr307
                    have hF346 : ∀ p k, (p ≠ 11 ∧ p ≠ 19) → I305 p k = I295 p k := fun p k h => hFr307.1 p k h.1 h.2
                    have hn347 : ¬ I305 11 11 = 0 := by rw [he319]; exact hz318
                    have hx348 : sp_R K P V (3, a, dp, sk, ld, nm, cs) (.inr f316) := sp_R_t hst304 hR317
                    show yi_D zi_Ms d zi_m257 k (174, [(4, .inl 0), (3, .inl 0), (2, .inl (K a)), (0, .inr (.inr (some 11))), (1, .inl (dp : Int))], [], (I305, L306, R, Y), 0, 0) _
                    refine yi_D_run 2 (177, [(4, .inl 0), (3, .inl 0), (2, .inl (K a)), (0, .inr (.inr (some 11))), (1, .inl (dp : Int))], [.inl 41, .inr (.inr (some 11))], (I305, L306, R, Y), 0, 0) (fun _ => rfl) ?_
                    refine yi_D_callv rfl (p_takeKind_f hW344 hn347) ?_
                    rintro _ rfl
                    show yi_D zi_Ms d zi_m257 k (180, [(4, .inl 0), (3, .inl 0), (2, .inl (K a)), (0, .inr (.inr (some 11))), (1, .inl (dp : Int))], [], (I305, L306, R, Y), 0, 0) _
                    refine yi_D_run 1 (198, [(4, .inl 0), (3, .inl 0), (2, .inl (K a)), (0, .inr (.inr (some 11))), (1, .inl (dp : Int))], [], (I305, L306, R, Y), 0, 0) (fun _ => rfl) ?_
                    refine yi_D_retv rfl ?_
                    exact ⟨_, _, rfl, hF345, Or.inr ⟨_, hx348, hz318, he319⟩⟩
                · refine yi_D_if2 false rfl (yi_lt_f h292) ?_
                  refine yi_D_run 2 (121, [(4, .inl 0), (3, .inl 0), (2, .inl (K a)), (0, .inr (.inr (some 11))), (1, .inl (dp : Int))], [.inl 5, .inr (.inr (some 11))], (I, L, R, Y), 0, 0) (fun _ => rfl) ?_
                  refine yi_D_callv rfl (p_wrong_z ⟨by omega, by omega⟩ hW hf hA) ?_
                  rintro _ ⟨I349, rfl, hg350, he351⟩
                  have hGw352 : cs_G I L I349 L := ⟨fun p k hp => hg350 p k (by omega), fun _ _ _ => rfl⟩
                  have hW353 := cs_W_t hW (cs_G_F hGw352)
                  have hF354 := (cs_G_F hGw352)
                  have hG355 := hGw352
                  have hz356 : ¬ sp_f P a 5 = 0 := sp_f_ne hW hA.2.1 (by omega)
                  have hn357 : ¬ I349 11 11 = 0 := by rw [he351]; exact hz356
                  have hx358 : sp_R K P V (3, a, dp, sk, ld, nm, cs) (.inr (sp_f P a 5)) := sp_R_1 (by
                    show sp_item K P V a dp sk ld nm cs = _
                    first
                    | (exfalso; omega)
                    | (unfold sp_item; repeat (first | rw [if_pos (by omega)] | rw [if_neg (by omega)])))
                  show yi_D zi_Ms d zi_m257 k (124, [(4, .inl 0), (3, .inl 0), (2, .inl (K a)), (0, .inr (.inr (some 11))), (1, .inl (dp : Int))], [], (I349, L, R, Y), 0, 0) _
                  refine yi_D_run 1 (125, [(4, .inl 0), (3, .inl 0), (2, .inl (K a)), (0, .inr (.inr (some 11))), (1, .inl (dp : Int))], [.inr (.inr (some 11))], (I349, L, R, Y), 0, 0) (fun _ => rfl) ?_
                  refine yi_D_gi (v := I349 11 11) rfl rfl rfl rfl (fun _ => ?_)
                  have h359 : ¬ ((I349 11 11) = 0) := by omega
                  refine yi_D_if1 false rfl (yi_eq_f h359) ?_
                  refine yi_D_retv rfl ?_
                  exact ⟨_, _, rfl, hF354, Or.inr ⟨_, hx358, hz356, he351⟩⟩
              · refine yi_D_if2 false rfl (yi_eq_f h290) ?_
                refine yi_D_run 1 (60, [(4, .inl 0), (3, .inl 0), (2, .inl (K a)), (0, .inr (.inr (some 11))), (1, .inl (dp : Int))], [.inl 0], (I, L, R, Y), 0, 0) (fun _ => rfl) ?_
                refine yi_D_if1 false rfl (by decide) ?_
                refine yi_D_run 1 (65, [(4, .inl 0), (3, .inl 0), (2, .inl (K a)), (0, .inr (.inr (some 11))), (1, .inl (dp : Int))], [.inl 0], (I, L, R, Y), 0, 0) (fun _ => rfl) ?_
                refine yi_D_if1 false rfl (by decide) ?_
                refine yi_D_run 2 (70, [(4, .inl 0), (3, .inl 0), (2, .inl (K a)), (0, .inr (.inr (some 11))), (1, .inl (dp : Int))], [.inl 1, .inr (.inr (some 11))], (I, L, R, Y), 0, 0) (fun _ => rfl) ?_
                refine yi_D_callv rfl (p_wrong_z ⟨by omega, by omega⟩ hW hf hA) ?_
                rintro _ ⟨I360, rfl, hg361, he362⟩
                have hGw363 : cs_G I L I360 L := ⟨fun p k hp => hg361 p k (by omega), fun _ _ _ => rfl⟩
                have hW364 := cs_W_t hW (cs_G_F hGw363)
                have hF365 := (cs_G_F hGw363)
                have hG366 := hGw363
                have hz367 : ¬ sp_f P a 1 = 0 := sp_f_ne hW hA.2.1 (by omega)
                have hn368 : ¬ I360 11 11 = 0 := by rw [he362]; exact hz367
                have hx369 : sp_R K P V (3, a, dp, sk, ld, nm, cs) (.inr (sp_f P a 1)) := sp_R_1 (by
                  show sp_item K P V a dp sk ld nm cs = _
                  first
                  | (exfalso; omega)
                  | (unfold sp_item; repeat (first | rw [if_pos (by omega)] | rw [if_neg (by omega)])))
                show yi_D zi_Ms d zi_m257 k (73, [(4, .inl 0), (3, .inl 0), (2, .inl (K a)), (0, .inr (.inr (some 11))), (1, .inl (dp : Int))], [], (I360, L, R, Y), 0, 0) _
                refine yi_D_run 2 (125, [(4, .inl 0), (3, .inl 0), (2, .inl (K a)), (0, .inr (.inr (some 11))), (1, .inl (dp : Int))], [.inr (.inr (some 11))], (I360, L, R, Y), 0, 0) (fun _ => rfl) ?_
                refine yi_D_gi (v := I360 11 11) rfl rfl rfl rfl (fun _ => ?_)
                have h370 : ¬ ((I360 11 11) = 0) := by omega
                refine yi_D_if1 false rfl (yi_eq_f h370) ?_
                refine yi_D_retv rfl ?_
                exact ⟨_, _, rfl, hF365, Or.inr ⟨_, hx369, hz367, he362⟩⟩
theorem p_readFormulaC_s {d : Nat} {I L : Nat → Nat → Int} {R : Nat → Nat → Option Nat} {Y : (Nat → Nat) × (Nat → Nat) × Nat} (hRI : cs_RIC d) {K P V : Nat → Int} {te q a : Nat} {ld : Nat → Int} {nm : Int → Int} (hW : cs_W I L R Y K P V te q ld nm) (hf : I 11 11 = 0) (hA : cs_A I L K te a) (dp : Nat) (sk : List Nat) (cs : List (Int × Int)) (hd : dp ≤ 5) {u0 da : Nat} {cb : List (Int × Int)} {fx : Nat → Int} {b0 vg : Int} (hda : ld 0 = (da : Int)) (hcc : cc_S (trF da vg) u0 cb fx b0 vg false I cs) (hu : u0 + cs.length + te ≤ 1001 + cb.length + a) : yi_P zi_Ms (d + 1) 256 [.inr (.inr (some 11)), .inl (dp : Int)] (I, L, R, Y) (cs_QRC (trF da vg) u0 cb fx b0 vg I L R Y K P V te (3, a, dp, 10 :: sk, ld, nm, cs) 7 a dp sk ld nm cs) := by
  refine yi_P_s (M := zi_m256) rfl (fun k => ?_)
  have hc0 := cc_le hcc
  have hle0 := hA.2.1
  have hte0 := hW.2.1.1
  have jn111f : ∀ (y4 : Int) (y3 : Int) (y2 : Int) (J G : Nat → Nat → Int) (f : Int), cs_F I L J G → J 11 11 = f → ¬ f = 0 → sp_R K P V (3, a, dp, 10 :: sk, ld, nm, cs) (.inr f) → yi_D zi_Ms d zi_m256 k (111, [(4, .inl y4), (3, .inl y3), (2, .inl y2), (0, .inr (.inr (some 11))), (1, .inl (dp : Int))], [], (J, G, R, Y), 0, 0) (cs_QRC (trF da vg) u0 cb fx b0 vg I L R Y K P V te (3, a, dp, 10 :: sk, ld, nm, cs) 7 a dp sk ld nm cs) := by
    intro y4 y3 y2 J G f jF je jn jsp 
    have jW := cs_W_t hW jF
    have jf : ¬ J 11 11 = 0 := by rw [je]; exact jn
    have jF1 : ∀ p k, (p ≠ 11 ∧ p ≠ 19) → J p k = I p k := fun p k h => jF.1 p k h.1 h.2
    have jF2 := jF.2
    refine yi_D_run 1 (112, [(4, .inl y4), (3, .inl y3), (2, .inl y2), (0, .inr (.inr (some 11))), (1, .inl (dp : Int))], [.inl y2], (J, G, R, Y), 0, 0) (fun _ => rfl) ?_
    by_cases h1 : y2 = 0
    · refine yi_D_if1 true rfl (yi_eq_t h1) ?_
      refine yi_D_retv rfl ?_
      exact ⟨_, _, rfl, jF, Or.inr ⟨_, jsp, jn, je⟩⟩
    · refine yi_D_if1 false rfl (yi_eq_f h1) ?_
      refine yi_D_run 2 (117, [(4, .inl y4), (3, .inl y3), (2, .inl y2), (0, .inr (.inr (some 11))), (1, .inl (dp : Int))], [.inl 3, .inr (.inr (some 11))], (J, G, R, Y), 0, 0) (fun _ => rfl) ?_
      refine yi_D_callv rfl (p_emit jW) ?_
      rintro _ ⟨I2, rfl, hE3⟩
      have hW4 := cs_W_t jW (cs_E_F (L := G) hE3)
      have hF5 := cs_F_t jF (cs_E_F hE3)
      have hf6 : ¬ I2 11 11 = 0 := by rw [hE3 11 11 (by omega) (by omega)]; exact jf
      have he7 := (hE3 11 11 (by omega) (by omega)).trans je
      show yi_D zi_Ms d zi_m256 k (120, [(4, .inl y4), (3, .inl y3), (2, .inl y2), (0, .inr (.inr (some 11))), (1, .inl (dp : Int))], [], (I2, G, R, Y), 0, 0) _
      refine yi_D_retv rfl ?_
      exact ⟨_, _, rfl, hF5, Or.inr ⟨_, jsp, jn, he7⟩⟩
  have jn9f : ∀ (y4 : Int) (y3 : Int) (y2 : Int) (J G : Nat → Nat → Int) (f : Int), cs_F I L J G → J 11 11 = f → ¬ f = 0 → sp_R K P V (3, a, dp, 10 :: sk, ld, nm, cs) (.inr f) → yi_D zi_Ms d zi_m256 k (9, [(4, .inl y4), (3, .inl y3), (2, .inl y2), (0, .inr (.inr (some 11))), (1, .inl (dp : Int))], [], (J, G, R, Y), 0, 0) (cs_QRC (trF da vg) u0 cb fx b0 vg I L R Y K P V te (3, a, dp, 10 :: sk, ld, nm, cs) 7 a dp sk ld nm cs) := by
    intro y4 y3 y2 J G f jF je jn jsp 
    have jW := cs_W_t hW jF
    have jf : ¬ J 11 11 = 0 := by rw [je]; exact jn
    have jF1 : ∀ p k, (p ≠ 11 ∧ p ≠ 19) → J p k = I p k := fun p k h => jF.1 p k h.1 h.2
    have jF2 := jF.2
    refine yi_D_run 2 (13, [(4, .inl y4), (3, .inl y3), (2, .inl y2), (0, .inr (.inr (some 11))), (1, .inl (dp : Int))], [.inl 1000, .inl y3], (J, G, R, Y), 0, 0) (fun _ => rfl) ?_
    by_cases h8 : 1000 ≤ y3
    · refine yi_D_if2 true rfl (yi_ge_t h8) ?_
      exact yi_D_mono (jn111f y4 y3 y2 _ _ _ jF je jn jsp ) (by omega)
    · refine yi_D_if2 false rfl (yi_ge_f h8) ?_
      refine yi_D_run 1 (17, [(4, .inl y4), (3, .inl y3), (2, .inl y2), (0, .inr (.inr (some 11))), (1, .inl (dp : Int))], [.inr (.inr (some 11))], (J, G, R, Y), 0, 0) (fun _ => rfl) ?_
      refine yi_D_gi (v := J 11 11) rfl rfl rfl rfl (fun _ => ?_)
      have h9 : ¬ ((J 11 11) = 0) := by omega
      refine yi_D_if1 true rfl (yi_ne_t h9) ?_
      exact yi_D_mono (jn111f y4 y3 y2 _ _ _ jF je jn jsp ) (by omega)
  have jn105f : ∀ (y4 : Int) (y3 : Int) (y2 : Int) (J G : Nat → Nat → Int) (f : Int), cs_F I L J G → J 11 11 = f → ¬ f = 0 → sp_R K P V (3, a, dp, 10 :: sk, ld, nm, cs) (.inr f) → yi_D zi_Ms d zi_m256 k (105, [(4, .inl y4), (3, .inl y3), (2, .inl y2), (0, .inr (.inr (some 11))), (1, .inl (dp : Int))], [], (J, G, R, Y), 0, 0) (cs_QRC (trF da vg) u0 cb fx b0 vg I L R Y K P V te (3, a, dp, 10 :: sk, ld, nm, cs) 7 a dp sk ld nm cs) := by
    intro y4 y3 y2 J G f jF je jn jsp 
    have jW := cs_W_t hW jF
    have jf : ¬ J 11 11 = 0 := by rw [je]; exact jn
    have jF1 : ∀ p k, (p ≠ 11 ∧ p ≠ 19) → J p k = I p k := fun p k h => jF.1 p k h.1 h.2
    have jF2 := jF.2
    refine yi_D_iinc [(3, .inl (yi_w (y3 + 1))), (4, .inl y4), (2, .inl y2), (0, .inr (.inr (some 11))), (1, .inl (dp : Int))] rfl rfl rfl rfl ?_
    refine yi_D_run 1 (9, [(3, .inl (yi_w (y3 + 1))), (4, .inl y4), (2, .inl y2), (0, .inr (.inr (some 11))), (1, .inl (dp : Int))], [], (J, G, R, Y), 0, 0) (fun _ => rfl) ?_
    refine yi_D_al (al := [(4, .inl y4), (3, .inl (yi_w (y3 + 1))), (2, .inl y2), (0, .inr (.inr (some 11))), (1, .inl (dp : Int))]) (show ([4, 3, 2, 0, 1] : List Nat).Nodup by decide) (show ([3, 4, 2, 0, 1] : List Nat).Nodup by decide) (yi_mc (List.mem_of_getElem? (i := 1) rfl) (yi_mc (List.mem_of_getElem? (i := 0) rfl) (yi_mc (List.mem_of_getElem? (i := 2) rfl) (yi_mc (List.mem_of_getElem? (i := 3) rfl) (yi_mc (List.mem_of_getElem? (i := 4) rfl) yi_mn))))) ?_
    exact yi_D_mono (jn9f y4 (yi_w (y3 + 1)) y2 _ _ _ jF je jn jsp ) (by omega)
  show yi_D zi_Ms d zi_m256 k (0, [(0, .inr (.inr (some 11))), (1, .inl (dp : Int))], [], (I, L, R, Y), 0, 0) _
  refine yi_D_run 4 (4, [(2, .inl 0), (0, .inr (.inr (some 11))), (1, .inl (dp : Int))], [.inl (dp : Int), .inr (.inr (some 11))], (I, L, R, Y), 0, 0) (fun _ => rfl) ?_
  refine yi_D_callv rfl (hRI dp (10 :: sk) cs hW hf hA (by omega) hda hcc (by omega)) ?_
  rintro _ ⟨I10, L11, rfl, hFr12, (⟨a13, cs14, hR15, lt16, hf17, hA18, hcc19, ll20⟩ | ⟨f21, hR22, hz23, he24⟩)⟩
  · have hW25 := cs_W_t hW hFr12
    have hF26 := hFr12
    have hF27 : ∀ p k, (p ≠ 11 ∧ p ≠ 19) → I10 p k = I p k := fun p k h => hFr12.1 p k h.1 h.2
    have hlehA18 := hA18.2.1
    have hclhcc19 := cc_le hcc19
    have hR28 : sp_R K P V (3, a, dp, 10 :: sk, ld, nm, cs) (.inl (5, a13, dp, 10 :: sk, ld, nm, cs14)) := sp_R_s hR15 rfl
    show yi_D zi_Ms d zi_m256 k (7, [(2, .inl 0), (0, .inr (.inr (some 11))), (1, .inl (dp : Int))], [], (I10, L11, R, Y), 0, 0) _
    refine yi_D_run 2 (9, [(3, .inl 0), (2, .inl 0), (0, .inr (.inr (some 11))), (1, .inl (dp : Int))], [], (I10, L11, R, Y), 0, 0) (fun _ => rfl) ?_
    have pt9 : ∀ j9, j9 ≤ k → ∀ (y3 : Int) (y2 : Int) (y4 : Int) (J1 : Nat → Nat → Int) (G1 : Nat → Nat → Int) (a1 : Nat) (cs1 : List (Int × Int)) (ef : Nat), (0 ≤ y3 ∧ 2 * y3 < (a1 : Int)) → ((y2 = 0 ∧ ef = 10) ∨ (y2 = 1 ∧ ef = 11)) → (a < a1) → (cs_F I L J1 G1) → (J1 11 11 = 0) → (cs_A J1 G1 K te a1) → (sp_R K P V (3, a, dp, 10 :: sk, ld, nm, cs) (.inl (5, a1, dp, ef :: sk, ld, nm, cs1))) → (cc_S (trF da vg) u0 cb fx b0 vg false J1 cs1) → (cs1.length + (ef - 10) + a ≤ cs.length + a1) → yi_D zi_Ms d zi_m256 j9 (9, [(3, .inl y3), (2, .inl y2), (0, .inr (.inr (some 11))), (1, .inl (dp : Int)), (4, .inl y4)], [], (J1, G1, R, Y), 0, 0) (cs_QRC (trF da vg) u0 cb fx b0 vg I L R Y K P V te (3, a, dp, 10 :: sk, ld, nm, cs) 7 a dp sk ld nm cs) := by
      intro j9
      induction j9 with
      | zero => intros; exact yi_D_0
      | succ j9 ih9 =>
      intro hk9 y3 y2 y4 J1 G1 a1 cs1 ef hn9 hef lt9 hF9 hf9 hA9 hR9 hcc9 hu9
      have hW9 := cs_W_t hW hF9
      have hF91 : ∀ p k, (p ≠ 11 ∧ p ≠ 19) → J1 p k = I p k := fun p k h => hF9.1 p k h.1 h.2
      have hle9 := hA9.2.1
      have hte9 := hW.2.1.1
      have hc9 := cc_le hcc9
      refine yi_D_run1 1 (13, [(3, .inl y3), (2, .inl y2), (0, .inr (.inr (some 11))), (1, .inl (dp : Int)), (4, .inl y4)], [.inl 1000, .inl y3], (J1, G1, R, Y), 0, 0) (fun _ => rfl) ?_
      have h29 : ¬ (1000 ≤ y3) := by omega
      refine yi_D_if2 false rfl (yi_ge_f h29) ?_
      refine yi_D_run 1 (17, [(3, .inl y3), (2, .inl y2), (0, .inr (.inr (some 11))), (1, .inl (dp : Int)), (4, .inl y4)], [.inr (.inr (some 11))], (J1, G1, R, Y), 0, 0) (fun _ => rfl) ?_
      refine yi_D_gi (v := 0) rfl rfl rfl hf9 (fun _ => ?_)
      refine yi_D_if1 false rfl (by decide) ?_
      refine yi_D_run 1 (24, [(3, .inl y3), (2, .inl y2), (0, .inr (.inr (some 11))), (1, .inl (dp : Int)), (4, .inl y4)], [.inr (.inr (some 11))], (J1, G1, R, Y), 0, 0) (fun _ => rfl) ?_
      refine yi_D_gi (v := K a1) rfl rfl rfl hA9.2.2.1 (fun _ => ?_)
      refine yi_D_run 1 (29, [(3, .inl y3), (2, .inl y2), (0, .inr (.inr (some 11))), (1, .inl (dp : Int)), (4, .inl y4)], [.inl 31, .inl (K a1)], (J1, G1, R, Y), 0, 0) (fun _ => rfl) ?_
      by_cases h30 : (K a1) = 31
      · refine yi_D_if2 true rfl (yi_eq_t h30) ?_
        refine yi_D_run 1 (42, [(3, .inl y3), (2, .inl y2), (0, .inr (.inr (some 11))), (1, .inl (dp : Int)), (4, .inl y4)], [.inr (.inr (some 11))], (J1, G1, R, Y), 0, 0) (fun _ => rfl) ?_
        refine yi_D_gi (v := K a1) rfl rfl rfl hA9.2.2.1 (fun _ => ?_)
        refine yi_D_run 1 (47, [(3, .inl y3), (2, .inl y2), (0, .inr (.inr (some 11))), (1, .inl (dp : Int)), (4, .inl y4)], [.inl 31, .inl (K a1)], (J1, G1, R, Y), 0, 0) (fun _ => rfl) ?_
        have h31 : (K a1) = 31 := by omega
        refine yi_D_if2 false rfl (yi_ne_f h31) ?_
        refine yi_D_run 4 (58, [(4, .inl 1), (3, .inl y3), (2, .inl y2), (0, .inr (.inr (some 11))), (1, .inl (dp : Int))], [.inr (.inr (some 11))], (J1, G1, R, Y), 0, 0) (fun _ => rfl) ?_
        refine yi_D_callv rfl (p_advance_z hW9 hf9 hA9) ?_
        rintro _ ⟨I32, L33, rfl, hGa34, hf35, hA36⟩
        rw [sp_nx_lt (cs_lt hW9.2.1 hA9.2.1 (by omega))] at hA36
        have hA36 : cs_A I32 L33 K te (a1 + 1) := hA36
        have hW37 := cs_W_t hW9 (cs_G_F hGa34)
        have hF38 := cs_F_t hF9 (cs_G_F hGa34)
        have hcc39 := cc_G hcc9 hGa34
        show yi_D zi_Ms d zi_m256 j9 (61, [(4, .inl 1), (3, .inl y3), (2, .inl y2), (0, .inr (.inr (some 11))), (1, .inl (dp : Int))], [], (I32, L33, R, Y), 0, 0) _
        refine yi_D_run 1 (63, [(4, .inl 1), (3, .inl y3), (2, .inl y2), (0, .inr (.inr (some 11))), (1, .inl (dp : Int))], [.inl 1], (I32, L33, R, Y), 0, 0) (fun _ => rfl) ?_
        refine yi_D_if1 true rfl (by decide) ?_
        refine yi_D_run 1 (76, [(4, .inl 1), (3, .inl y3), (2, .inl y2), (0, .inr (.inr (some 11))), (1, .inl (dp : Int))], [.inl y2], (I32, L33, R, Y), 0, 0) (fun _ => rfl) ?_
        by_cases h40 : y2 = 0
        · refine yi_D_if1 false rfl (yi_ne_f h40) ?_
          refine yi_D_run 1 (81, [(4, .inl 1), (3, .inl y3), (2, .inl y2), (0, .inr (.inr (some 11))), (1, .inl (dp : Int))], [.inl 1], (I32, L33, R, Y), 0, 0) (fun _ => rfl) ?_
          refine yi_D_if1 true rfl (by decide) ?_
          refine yi_D_run 4 (92, [(2, .inl 0), (4, .inl 1), (3, .inl y3), (0, .inr (.inr (some 11))), (1, .inl (dp : Int))], [.inl (dp : Int), .inr (.inr (some 11))], (I32, L33, R, Y), 0, 0) (fun _ => rfl) ?_
          have hst41 : sp_R K P V (3, a, dp, 10 :: sk, ld, nm, cs) (.inl (3, a1 + 1, dp, (ef + 2) :: sk, ld, nm, cs1)) := sp_R_s hR9 (by
            show (if K a1 = 31 then _ else _) = _
            rw [if_pos (by omega)])
          refine yi_D_callv rfl (hRI dp ((ef + 2) :: sk) cs1 hW37 hf35 hA36 (by omega) hda hcc39 (by omega)) ?_
          rintro _ ⟨I42, L43, rfl, hFr44, (⟨a45, cs46, hR47, lt48, hf49, hA50, hcc51, ll52⟩ | ⟨f53, hR54, hz55, he56⟩)⟩
          · have hW57 := cs_W_t hW37 hFr44
            have hF58 := cs_F_t hF38 hFr44
            have hF59 : ∀ p k, (p ≠ 11 ∧ p ≠ 19) → I42 p k = I32 p k := fun p k h => hFr44.1 p k h.1 h.2
            have hlehA50 := hA50.2.1
            have hclhcc51 := cc_le hcc51
            have hR60 : sp_R K P V (3, a, dp, 10 :: sk, ld, nm, cs) (.inl (5, a45, dp, ef :: sk, ld, nm, cs46 ++ [(9, 0)])) := sp_R_s (sp_R_t hst41 hR47) (sp_st4 (by omega))
            show yi_D zi_Ms d zi_m256 j9 (95, [(2, .inl 0), (4, .inl 1), (3, .inl y3), (0, .inr (.inr (some 11))), (1, .inl (dp : Int))], [], (I42, L43, R, Y), 0, 0) _
            refine yi_D_run 1 (97, [(2, .inl 0), (4, .inl 1), (3, .inl y3), (0, .inr (.inr (some 11))), (1, .inl (dp : Int))], [.inl 1], (I42, L43, R, Y), 0, 0) (fun _ => rfl) ?_
            refine yi_D_if1 false rfl (by decide) ?_
            refine yi_D_run 2 (102, [(2, .inl 0), (4, .inl 1), (3, .inl y3), (0, .inr (.inr (some 11))), (1, .inl (dp : Int))], [.inl 2, .inr (.inr (some 11))], (I42, L43, R, Y), 0, 0) (fun _ => rfl) ?_
            refine yi_D_callv rfl (p_emitC hW57 hf49 (cc_u hcc51) (by omega)) ?_
            rintro _ ⟨I61, rfl, hE62⟩
            have hE63 := cc_E_E hE62
            have hcc64 := cc_push hcc51 hE62 (x := (9, 0)) trF_9 rfl (by decide)
            have hlnhcc64 := List.length_append (as := cs46) (bs := [(9, 0)])
            rw [List.length_singleton] at hlnhcc64
            have hW65 := cs_W_t hW57 (cs_E_F (L := L43) hE63)
            have hF66 := cs_F_t hF58 (cs_E_F hE63)
            have hf67 : I61 11 11 = 0 := (hE63 11 11 (by omega) (by omega)).trans hf49
            have hA68 := cs_A_e hA50 hE63
            show yi_D zi_Ms d zi_m256 j9 (105, [(2, .inl 0), (4, .inl 1), (3, .inl y3), (0, .inr (.inr (some 11))), (1, .inl (dp : Int))], [], (I61, L43, R, Y), 0, 0) _
            refine yi_D_iinc [(3, .inl (y3 + 1)), (2, .inl 0), (4, .inl 1), (0, .inr (.inr (some 11))), (1, .inl (dp : Int))] rfl rfl rfl (by rw [show yi_w (y3 + 1) = y3 + 1 from (yi_wn (by omega) (by omega)).trans (by omega)]; rfl) ?_
            refine yi_D_run 1 (9, [(3, .inl (y3 + 1)), (2, .inl 0), (4, .inl 1), (0, .inr (.inr (some 11))), (1, .inl (dp : Int))], [], (I61, L43, R, Y), 0, 0) (fun _ => rfl) ?_
            refine yi_D_al (al := [(3, .inl (y3 + 1)), (2, .inl 0), (0, .inr (.inr (some 11))), (1, .inl (dp : Int)), (4, .inl 1)]) (show ([3, 2, 0, 1, 4] : List Nat).Nodup by decide) (show ([3, 2, 4, 0, 1] : List Nat).Nodup by decide) (yi_mc (List.mem_of_getElem? (i := 0) rfl) (yi_mc (List.mem_of_getElem? (i := 1) rfl) (yi_mc (List.mem_of_getElem? (i := 4) rfl) (yi_mc (List.mem_of_getElem? (i := 2) rfl) (yi_mc (List.mem_of_getElem? (i := 3) rfl) yi_mn))))) ?_
            exact yi_D_mono (ih9 (by omega) (y3 + 1) 0 1 I61 L43 a45 (cs46 ++ [(9, 0)]) ef (by omega) (by omega) (by omega) hF66 hf67 hA68 hR60 hcc64 (by omega)) (by omega)
          · have hW69 := cs_W_t hW37 hFr44
            have hF70 := cs_F_t hF38 hFr44
            have hF71 : ∀ p k, (p ≠ 11 ∧ p ≠ 19) → I42 p k = I32 p k := fun p k h => hFr44.1 p k h.1 h.2
            have hn72 : ¬ I42 11 11 = 0 := by rw [he56]; exact hz55
            have hx73 : sp_R K P V (3, a, dp, 10 :: sk, ld, nm, cs) (.inr f53) := sp_R_t hst41 hR54
            show yi_D zi_Ms d zi_m256 j9 (95, [(2, .inl 0), (4, .inl 1), (3, .inl y3), (0, .inr (.inr (some 11))), (1, .inl (dp : Int))], [], (I42, L43, R, Y), 0, 0) _
            refine yi_D_run 1 (97, [(2, .inl 0), (4, .inl 1), (3, .inl y3), (0, .inr (.inr (some 11))), (1, .inl (dp : Int))], [.inl 1], (I42, L43, R, Y), 0, 0) (fun _ => rfl) ?_
            refine yi_D_if1 false rfl (by decide) ?_
            refine yi_D_run 2 (102, [(2, .inl 0), (4, .inl 1), (3, .inl y3), (0, .inr (.inr (some 11))), (1, .inl (dp : Int))], [.inl 2, .inr (.inr (some 11))], (I42, L43, R, Y), 0, 0) (fun _ => rfl) ?_
            refine yi_D_callv rfl (p_emit hW69) ?_
            rintro _ ⟨I74, rfl, hE75⟩
            have hW76 := cs_W_t hW69 (cs_E_F (L := L43) hE75)
            have hF77 := cs_F_t hF70 (cs_E_F hE75)
            have hf78 : ¬ I74 11 11 = 0 := by rw [hE75 11 11 (by omega) (by omega)]; exact hn72
            have he79 := (hE75 11 11 (by omega) (by omega)).trans he56
            show yi_D zi_Ms d zi_m256 j9 (105, [(2, .inl 0), (4, .inl 1), (3, .inl y3), (0, .inr (.inr (some 11))), (1, .inl (dp : Int))], [], (I74, L43, R, Y), 0, 0) _
            refine yi_D_al (al := [(4, .inl 1), (3, .inl y3), (2, .inl 0), (0, .inr (.inr (some 11))), (1, .inl (dp : Int))]) (show ([4, 3, 2, 0, 1] : List Nat).Nodup by decide) (show ([2, 4, 3, 0, 1] : List Nat).Nodup by decide) (yi_mc (List.mem_of_getElem? (i := 2) rfl) (yi_mc (List.mem_of_getElem? (i := 0) rfl) (yi_mc (List.mem_of_getElem? (i := 1) rfl) (yi_mc (List.mem_of_getElem? (i := 3) rfl) (yi_mc (List.mem_of_getElem? (i := 4) rfl) yi_mn))))) ?_
            exact yi_D_mono (jn105f 1 y3 0 _ _ _ hF77 he79 hz55 hx73 ) (by omega)
        · refine yi_D_if1 true rfl (yi_ne_t h40) ?_
          refine yi_D_run 5 (92, [(2, .inl 1), (4, .inl 1), (3, .inl y3), (0, .inr (.inr (some 11))), (1, .inl (dp : Int))], [.inl (dp : Int), .inr (.inr (some 11))], (I32, L33, R, Y), 0, 0) (fun _ => rfl) ?_
          have hst80 : sp_R K P V (3, a, dp, 10 :: sk, ld, nm, cs) (.inl (3, a1 + 1, dp, (ef + 2) :: sk, ld, nm, cs1)) := sp_R_s hR9 (by
            show (if K a1 = 31 then _ else _) = _
            rw [if_pos (by omega)])
          refine yi_D_callv rfl (hRI dp ((ef + 2) :: sk) cs1 hW37 hf35 hA36 (by omega) hda hcc39 (by omega)) ?_
          rintro _ ⟨I81, L82, rfl, hFr83, (⟨a84, cs85, hR86, lt87, hf88, hA89, hcc90, ll91⟩ | ⟨f92, hR93, hz94, he95⟩)⟩
          · have hW96 := cs_W_t hW37 hFr83
            have hF97 := cs_F_t hF38 hFr83
            have hF98 : ∀ p k, (p ≠ 11 ∧ p ≠ 19) → I81 p k = I32 p k := fun p k h => hFr83.1 p k h.1 h.2
            have hlehA89 := hA89.2.1
            have hclhcc90 := cc_le hcc90
            have hR99 : sp_R K P V (3, a, dp, 10 :: sk, ld, nm, cs) (.inl (5, a84, dp, ef :: sk, ld, nm, cs85 ++ [(9, 0)])) := sp_R_s (sp_R_t hst80 hR86) (sp_st4 (by omega))
            show yi_D zi_Ms d zi_m256 j9 (95, [(2, .inl 1), (4, .inl 1), (3, .inl y3), (0, .inr (.inr (some 11))), (1, .inl (dp : Int))], [], (I81, L82, R, Y), 0, 0) _
            refine yi_D_run 1 (97, [(2, .inl 1), (4, .inl 1), (3, .inl y3), (0, .inr (.inr (some 11))), (1, .inl (dp : Int))], [.inl 1], (I81, L82, R, Y), 0, 0) (fun _ => rfl) ?_
            refine yi_D_if1 false rfl (by decide) ?_
            refine yi_D_run 2 (102, [(2, .inl 1), (4, .inl 1), (3, .inl y3), (0, .inr (.inr (some 11))), (1, .inl (dp : Int))], [.inl 2, .inr (.inr (some 11))], (I81, L82, R, Y), 0, 0) (fun _ => rfl) ?_
            refine yi_D_callv rfl (p_emitC hW96 hf88 (cc_u hcc90) (by omega)) ?_
            rintro _ ⟨I100, rfl, hE101⟩
            have hE102 := cc_E_E hE101
            have hcc103 := cc_push hcc90 hE101 (x := (9, 0)) trF_9 rfl (by decide)
            have hlnhcc103 := List.length_append (as := cs85) (bs := [(9, 0)])
            rw [List.length_singleton] at hlnhcc103
            have hW104 := cs_W_t hW96 (cs_E_F (L := L82) hE102)
            have hF105 := cs_F_t hF97 (cs_E_F hE102)
            have hf106 : I100 11 11 = 0 := (hE102 11 11 (by omega) (by omega)).trans hf88
            have hA107 := cs_A_e hA89 hE102
            show yi_D zi_Ms d zi_m256 j9 (105, [(2, .inl 1), (4, .inl 1), (3, .inl y3), (0, .inr (.inr (some 11))), (1, .inl (dp : Int))], [], (I100, L82, R, Y), 0, 0) _
            refine yi_D_iinc [(3, .inl (y3 + 1)), (2, .inl 1), (4, .inl 1), (0, .inr (.inr (some 11))), (1, .inl (dp : Int))] rfl rfl rfl (by rw [show yi_w (y3 + 1) = y3 + 1 from (yi_wn (by omega) (by omega)).trans (by omega)]; rfl) ?_
            refine yi_D_run 1 (9, [(3, .inl (y3 + 1)), (2, .inl 1), (4, .inl 1), (0, .inr (.inr (some 11))), (1, .inl (dp : Int))], [], (I100, L82, R, Y), 0, 0) (fun _ => rfl) ?_
            refine yi_D_al (al := [(3, .inl (y3 + 1)), (2, .inl 1), (0, .inr (.inr (some 11))), (1, .inl (dp : Int)), (4, .inl 1)]) (show ([3, 2, 0, 1, 4] : List Nat).Nodup by decide) (show ([3, 2, 4, 0, 1] : List Nat).Nodup by decide) (yi_mc (List.mem_of_getElem? (i := 0) rfl) (yi_mc (List.mem_of_getElem? (i := 1) rfl) (yi_mc (List.mem_of_getElem? (i := 4) rfl) (yi_mc (List.mem_of_getElem? (i := 2) rfl) (yi_mc (List.mem_of_getElem? (i := 3) rfl) yi_mn))))) ?_
            exact yi_D_mono (ih9 (by omega) (y3 + 1) 1 1 I100 L82 a84 (cs85 ++ [(9, 0)]) ef (by omega) (by omega) (by omega) hF105 hf106 hA107 hR99 hcc103 (by omega)) (by omega)
          · have hW108 := cs_W_t hW37 hFr83
            have hF109 := cs_F_t hF38 hFr83
            have hF110 : ∀ p k, (p ≠ 11 ∧ p ≠ 19) → I81 p k = I32 p k := fun p k h => hFr83.1 p k h.1 h.2
            have hn111 : ¬ I81 11 11 = 0 := by rw [he95]; exact hz94
            have hx112 : sp_R K P V (3, a, dp, 10 :: sk, ld, nm, cs) (.inr f92) := sp_R_t hst80 hR93
            show yi_D zi_Ms d zi_m256 j9 (95, [(2, .inl 1), (4, .inl 1), (3, .inl y3), (0, .inr (.inr (some 11))), (1, .inl (dp : Int))], [], (I81, L82, R, Y), 0, 0) _
            refine yi_D_run 1 (97, [(2, .inl 1), (4, .inl 1), (3, .inl y3), (0, .inr (.inr (some 11))), (1, .inl (dp : Int))], [.inl 1], (I81, L82, R, Y), 0, 0) (fun _ => rfl) ?_
            refine yi_D_if1 false rfl (by decide) ?_
            refine yi_D_run 2 (102, [(2, .inl 1), (4, .inl 1), (3, .inl y3), (0, .inr (.inr (some 11))), (1, .inl (dp : Int))], [.inl 2, .inr (.inr (some 11))], (I81, L82, R, Y), 0, 0) (fun _ => rfl) ?_
            refine yi_D_callv rfl (p_emit hW108) ?_
            rintro _ ⟨I113, rfl, hE114⟩
            have hW115 := cs_W_t hW108 (cs_E_F (L := L82) hE114)
            have hF116 := cs_F_t hF109 (cs_E_F hE114)
            have hf117 : ¬ I113 11 11 = 0 := by rw [hE114 11 11 (by omega) (by omega)]; exact hn111
            have he118 := (hE114 11 11 (by omega) (by omega)).trans he95
            show yi_D zi_Ms d zi_m256 j9 (105, [(2, .inl 1), (4, .inl 1), (3, .inl y3), (0, .inr (.inr (some 11))), (1, .inl (dp : Int))], [], (I113, L82, R, Y), 0, 0) _
            refine yi_D_al (al := [(4, .inl 1), (3, .inl y3), (2, .inl 1), (0, .inr (.inr (some 11))), (1, .inl (dp : Int))]) (show ([4, 3, 2, 0, 1] : List Nat).Nodup by decide) (show ([2, 4, 3, 0, 1] : List Nat).Nodup by decide) (yi_mc (List.mem_of_getElem? (i := 2) rfl) (yi_mc (List.mem_of_getElem? (i := 0) rfl) (yi_mc (List.mem_of_getElem? (i := 1) rfl) (yi_mc (List.mem_of_getElem? (i := 3) rfl) (yi_mc (List.mem_of_getElem? (i := 4) rfl) yi_mn))))) ?_
            exact yi_D_mono (jn105f 1 y3 1 _ _ _ hF116 he118 hz94 hx112 ) (by omega)
      · refine yi_D_if2 false rfl (yi_eq_f h30) ?_
        refine yi_D_run 1 (33, [(3, .inl y3), (2, .inl y2), (0, .inr (.inr (some 11))), (1, .inl (dp : Int)), (4, .inl y4)], [.inr (.inr (some 11))], (J1, G1, R, Y), 0, 0) (fun _ => rfl) ?_
        refine yi_D_gi (v := K a1) rfl rfl rfl hA9.2.2.1 (fun _ => ?_)
        refine yi_D_run 1 (38, [(3, .inl y3), (2, .inl y2), (0, .inr (.inr (some 11))), (1, .inl (dp : Int)), (4, .inl y4)], [.inl 32, .inl (K a1)], (J1, G1, R, Y), 0, 0) (fun _ => rfl) ?_
        by_cases h119 : (K a1) = 32
        · refine yi_D_if2 false rfl (yi_ne_f h119) ?_
          refine yi_D_run 1 (42, [(3, .inl y3), (2, .inl y2), (0, .inr (.inr (some 11))), (1, .inl (dp : Int)), (4, .inl y4)], [.inr (.inr (some 11))], (J1, G1, R, Y), 0, 0) (fun _ => rfl) ?_
          refine yi_D_gi (v := K a1) rfl rfl rfl hA9.2.2.1 (fun _ => ?_)
          refine yi_D_run 1 (47, [(3, .inl y3), (2, .inl y2), (0, .inr (.inr (some 11))), (1, .inl (dp : Int)), (4, .inl y4)], [.inl 31, .inl (K a1)], (J1, G1, R, Y), 0, 0) (fun _ => rfl) ?_
          have h120 : ¬ ((K a1) = 31) := by omega
          refine yi_D_if2 true rfl (yi_ne_t h120) ?_
          refine yi_D_run 3 (58, [(4, .inl 0), (3, .inl y3), (2, .inl y2), (0, .inr (.inr (some 11))), (1, .inl (dp : Int))], [.inr (.inr (some 11))], (J1, G1, R, Y), 0, 0) (fun _ => rfl) ?_
          refine yi_D_callv rfl (p_advance_z hW9 hf9 hA9) ?_
          rintro _ ⟨I121, L122, rfl, hGa123, hf124, hA125⟩
          rw [sp_nx_lt (cs_lt hW9.2.1 hA9.2.1 (by omega))] at hA125
          have hA125 : cs_A I121 L122 K te (a1 + 1) := hA125
          have hW126 := cs_W_t hW9 (cs_G_F hGa123)
          have hF127 := cs_F_t hF9 (cs_G_F hGa123)
          have hcc128 := cc_G hcc9 hGa123
          show yi_D zi_Ms d zi_m256 j9 (61, [(4, .inl 0), (3, .inl y3), (2, .inl y2), (0, .inr (.inr (some 11))), (1, .inl (dp : Int))], [], (I121, L122, R, Y), 0, 0) _
          refine yi_D_run 1 (63, [(4, .inl 0), (3, .inl y3), (2, .inl y2), (0, .inr (.inr (some 11))), (1, .inl (dp : Int))], [.inl 0], (I121, L122, R, Y), 0, 0) (fun _ => rfl) ?_
          refine yi_D_if1 false rfl (by decide) ?_
          refine yi_D_run 1 (67, [(4, .inl 0), (3, .inl y3), (2, .inl y2), (0, .inr (.inr (some 11))), (1, .inl (dp : Int))], [.inl y2], (I121, L122, R, Y), 0, 0) (fun _ => rfl) ?_
          by_cases h129 : y2 = 0
          · refine yi_D_if1 true rfl (yi_eq_t h129) ?_
            refine yi_D_run 1 (76, [(4, .inl 0), (3, .inl y3), (2, .inl y2), (0, .inr (.inr (some 11))), (1, .inl (dp : Int))], [.inl y2], (I121, L122, R, Y), 0, 0) (fun _ => rfl) ?_
            have h130 : y2 = 0 := by omega
            refine yi_D_if1 false rfl (yi_ne_f h130) ?_
            refine yi_D_run 1 (81, [(4, .inl 0), (3, .inl y3), (2, .inl y2), (0, .inr (.inr (some 11))), (1, .inl (dp : Int))], [.inl 0], (I121, L122, R, Y), 0, 0) (fun _ => rfl) ?_
            refine yi_D_if1 false rfl (by decide) ?_
            refine yi_D_run 5 (92, [(2, .inl 1), (4, .inl 0), (3, .inl y3), (0, .inr (.inr (some 11))), (1, .inl (dp : Int))], [.inl (dp : Int), .inr (.inr (some 11))], (I121, L122, R, Y), 0, 0) (fun _ => rfl) ?_
            have hst131 : sp_R K P V (3, a, dp, 10 :: sk, ld, nm, cs) (.inl (3, a1 + 1, dp, 11 :: sk, ld, nm, if ef = 11 then cs1 ++ [(10, 0)] else cs1)) := sp_R_s (sp_R_s hR9 (show sp_step K P V (5, a1, dp, ef :: sk, ld, nm, cs1) = .inl (6, a1, dp, sk, ld, nm, if ef = 11 then cs1 ++ [(10, 0)] else cs1) from by
              show (if K a1 = 31 then _ else _) = _
              rw [if_neg (by omega)])) (by
              show (if K a1 = 32 then _ else _) = _
              rw [if_pos (by omega)])
            rw [if_neg (by omega)] at hst131
            refine yi_D_callv rfl (hRI dp (11 :: sk) cs1 hW126 hf124 hA125 (by omega) hda hcc128 (by omega)) ?_
            rintro _ ⟨I132, L133, rfl, hFr134, (⟨a135, cs136, hR137, lt138, hf139, hA140, hcc141, ll142⟩ | ⟨f143, hR144, hz145, he146⟩)⟩
            · have hW147 := cs_W_t hW126 hFr134
              have hF148 := cs_F_t hF127 hFr134
              have hF149 : ∀ p k, (p ≠ 11 ∧ p ≠ 19) → I132 p k = I121 p k := fun p k h => hFr134.1 p k h.1 h.2
              have hlehA140 := hA140.2.1
              have hclhcc141 := cc_le hcc141
              have hR150 : sp_R K P V (3, a, dp, 10 :: sk, ld, nm, cs) (.inl (5, a135, dp, 11 :: sk, ld, nm, cs136)) := sp_R_s (sp_R_t hst131 hR137) rfl
              show yi_D zi_Ms d zi_m256 j9 (95, [(2, .inl 1), (4, .inl 0), (3, .inl y3), (0, .inr (.inr (some 11))), (1, .inl (dp : Int))], [], (I132, L133, R, Y), 0, 0) _
              refine yi_D_run 1 (97, [(2, .inl 1), (4, .inl 0), (3, .inl y3), (0, .inr (.inr (some 11))), (1, .inl (dp : Int))], [.inl 0], (I132, L133, R, Y), 0, 0) (fun _ => rfl) ?_
              refine yi_D_if1 true rfl (by decide) ?_
              refine yi_D_iinc [(3, .inl (y3 + 1)), (2, .inl 1), (4, .inl 0), (0, .inr (.inr (some 11))), (1, .inl (dp : Int))] rfl rfl rfl (by rw [show yi_w (y3 + 1) = y3 + 1 from (yi_wn (by omega) (by omega)).trans (by omega)]; rfl) ?_
              refine yi_D_run 1 (9, [(3, .inl (y3 + 1)), (2, .inl 1), (4, .inl 0), (0, .inr (.inr (some 11))), (1, .inl (dp : Int))], [], (I132, L133, R, Y), 0, 0) (fun _ => rfl) ?_
              refine yi_D_al (al := [(3, .inl (y3 + 1)), (2, .inl 1), (0, .inr (.inr (some 11))), (1, .inl (dp : Int)), (4, .inl 0)]) (show ([3, 2, 0, 1, 4] : List Nat).Nodup by decide) (show ([3, 2, 4, 0, 1] : List Nat).Nodup by decide) (yi_mc (List.mem_of_getElem? (i := 0) rfl) (yi_mc (List.mem_of_getElem? (i := 1) rfl) (yi_mc (List.mem_of_getElem? (i := 4) rfl) (yi_mc (List.mem_of_getElem? (i := 2) rfl) (yi_mc (List.mem_of_getElem? (i := 3) rfl) yi_mn))))) ?_
              exact yi_D_mono (ih9 (by omega) (y3 + 1) 1 0 I132 L133 a135 cs136 11 (by omega) (by omega) (by omega) hF148 hf139 hA140 hR150 hcc141 (by omega)) (by omega)
            · have hW151 := cs_W_t hW126 hFr134
              have hF152 := cs_F_t hF127 hFr134
              have hF153 : ∀ p k, (p ≠ 11 ∧ p ≠ 19) → I132 p k = I121 p k := fun p k h => hFr134.1 p k h.1 h.2
              have hn154 : ¬ I132 11 11 = 0 := by rw [he146]; exact hz145
              have hx155 : sp_R K P V (3, a, dp, 10 :: sk, ld, nm, cs) (.inr f143) := sp_R_t hst131 hR144
              show yi_D zi_Ms d zi_m256 j9 (95, [(2, .inl 1), (4, .inl 0), (3, .inl y3), (0, .inr (.inr (some 11))), (1, .inl (dp : Int))], [], (I132, L133, R, Y), 0, 0) _
              refine yi_D_run 1 (97, [(2, .inl 1), (4, .inl 0), (3, .inl y3), (0, .inr (.inr (some 11))), (1, .inl (dp : Int))], [.inl 0], (I132, L133, R, Y), 0, 0) (fun _ => rfl) ?_
              refine yi_D_if1 true rfl (by decide) ?_
              refine yi_D_al (al := [(4, .inl 0), (3, .inl y3), (2, .inl 1), (0, .inr (.inr (some 11))), (1, .inl (dp : Int))]) (show ([4, 3, 2, 0, 1] : List Nat).Nodup by decide) (show ([2, 4, 3, 0, 1] : List Nat).Nodup by decide) (yi_mc (List.mem_of_getElem? (i := 2) rfl) (yi_mc (List.mem_of_getElem? (i := 0) rfl) (yi_mc (List.mem_of_getElem? (i := 1) rfl) (yi_mc (List.mem_of_getElem? (i := 3) rfl) (yi_mc (List.mem_of_getElem? (i := 4) rfl) yi_mn))))) ?_
              exact yi_D_mono (jn105f 0 y3 1 _ _ _ hF152 he146 hz145 hx155 ) (by omega)
          · refine yi_D_if1 false rfl (yi_eq_f h129) ?_
            refine yi_D_run 2 (72, [(4, .inl 0), (3, .inl y3), (2, .inl y2), (0, .inr (.inr (some 11))), (1, .inl (dp : Int))], [.inl 3, .inr (.inr (some 11))], (I121, L122, R, Y), 0, 0) (fun _ => rfl) ?_
            refine yi_D_callv rfl (p_emitC hW126 hf124 (cc_u hcc128) (by omega)) ?_
            rintro _ ⟨I156, rfl, hE157⟩
            have hE158 := cc_E_E hE157
            have hcc159 := cc_push hcc128 hE157 (x := (10, 0)) trF_10 rfl (by decide)
            have hlnhcc159 := List.length_append (as := cs1) (bs := [(10, 0)])
            rw [List.length_singleton] at hlnhcc159
            have hW160 := cs_W_t hW126 (cs_E_F (L := L122) hE158)
            have hF161 := cs_F_t hF127 (cs_E_F hE158)
            have hf162 : I156 11 11 = 0 := (hE158 11 11 (by omega) (by omega)).trans hf124
            have hA163 := cs_A_e hA125 hE158
            show yi_D zi_Ms d zi_m256 j9 (75, [(4, .inl 0), (3, .inl y3), (2, .inl y2), (0, .inr (.inr (some 11))), (1, .inl (dp : Int))], [], (I156, L122, R, Y), 0, 0) _
            refine yi_D_run 1 (76, [(4, .inl 0), (3, .inl y3), (2, .inl y2), (0, .inr (.inr (some 11))), (1, .inl (dp : Int))], [.inl y2], (I156, L122, R, Y), 0, 0) (fun _ => rfl) ?_
            have h164 : ¬ (y2 = 0) := by omega
            refine yi_D_if1 true rfl (yi_ne_t h164) ?_
            refine yi_D_run 5 (92, [(2, .inl 1), (4, .inl 0), (3, .inl y3), (0, .inr (.inr (some 11))), (1, .inl (dp : Int))], [.inl (dp : Int), .inr (.inr (some 11))], (I156, L122, R, Y), 0, 0) (fun _ => rfl) ?_
            have hst165 : sp_R K P V (3, a, dp, 10 :: sk, ld, nm, cs) (.inl (3, a1 + 1, dp, 11 :: sk, ld, nm, if ef = 11 then cs1 ++ [(10, 0)] else cs1)) := sp_R_s (sp_R_s hR9 (show sp_step K P V (5, a1, dp, ef :: sk, ld, nm, cs1) = .inl (6, a1, dp, sk, ld, nm, if ef = 11 then cs1 ++ [(10, 0)] else cs1) from by
              show (if K a1 = 31 then _ else _) = _
              rw [if_neg (by omega)])) (by
              show (if K a1 = 32 then _ else _) = _
              rw [if_pos (by omega)])
            rw [if_pos (by omega)] at hst165
            refine yi_D_callv rfl (hRI dp (11 :: sk) (cs1 ++ [(10, 0)]) hW160 hf162 hA163 (by omega) hda hcc159 (by omega)) ?_
            rintro _ ⟨I166, L167, rfl, hFr168, (⟨a169, cs170, hR171, lt172, hf173, hA174, hcc175, ll176⟩ | ⟨f177, hR178, hz179, he180⟩)⟩
            · have hW181 := cs_W_t hW160 hFr168
              have hF182 := cs_F_t hF161 hFr168
              have hF183 : ∀ p k, (p ≠ 11 ∧ p ≠ 19) → I166 p k = I156 p k := fun p k h => hFr168.1 p k h.1 h.2
              have hlehA174 := hA174.2.1
              have hclhcc175 := cc_le hcc175
              have hR184 : sp_R K P V (3, a, dp, 10 :: sk, ld, nm, cs) (.inl (5, a169, dp, 11 :: sk, ld, nm, cs170)) := sp_R_s (sp_R_t hst165 hR171) rfl
              show yi_D zi_Ms d zi_m256 j9 (95, [(2, .inl 1), (4, .inl 0), (3, .inl y3), (0, .inr (.inr (some 11))), (1, .inl (dp : Int))], [], (I166, L167, R, Y), 0, 0) _
              refine yi_D_run 1 (97, [(2, .inl 1), (4, .inl 0), (3, .inl y3), (0, .inr (.inr (some 11))), (1, .inl (dp : Int))], [.inl 0], (I166, L167, R, Y), 0, 0) (fun _ => rfl) ?_
              refine yi_D_if1 true rfl (by decide) ?_
              refine yi_D_iinc [(3, .inl (y3 + 1)), (2, .inl 1), (4, .inl 0), (0, .inr (.inr (some 11))), (1, .inl (dp : Int))] rfl rfl rfl (by rw [show yi_w (y3 + 1) = y3 + 1 from (yi_wn (by omega) (by omega)).trans (by omega)]; rfl) ?_
              refine yi_D_run 1 (9, [(3, .inl (y3 + 1)), (2, .inl 1), (4, .inl 0), (0, .inr (.inr (some 11))), (1, .inl (dp : Int))], [], (I166, L167, R, Y), 0, 0) (fun _ => rfl) ?_
              refine yi_D_al (al := [(3, .inl (y3 + 1)), (2, .inl 1), (0, .inr (.inr (some 11))), (1, .inl (dp : Int)), (4, .inl 0)]) (show ([3, 2, 0, 1, 4] : List Nat).Nodup by decide) (show ([3, 2, 4, 0, 1] : List Nat).Nodup by decide) (yi_mc (List.mem_of_getElem? (i := 0) rfl) (yi_mc (List.mem_of_getElem? (i := 1) rfl) (yi_mc (List.mem_of_getElem? (i := 4) rfl) (yi_mc (List.mem_of_getElem? (i := 2) rfl) (yi_mc (List.mem_of_getElem? (i := 3) rfl) yi_mn))))) ?_
              exact yi_D_mono (ih9 (by omega) (y3 + 1) 1 0 I166 L167 a169 cs170 11 (by omega) (by omega) (by omega) hF182 hf173 hA174 hR184 hcc175 (by omega)) (by omega)
            · have hW185 := cs_W_t hW160 hFr168
              have hF186 := cs_F_t hF161 hFr168
              have hF187 : ∀ p k, (p ≠ 11 ∧ p ≠ 19) → I166 p k = I156 p k := fun p k h => hFr168.1 p k h.1 h.2
              have hn188 : ¬ I166 11 11 = 0 := by rw [he180]; exact hz179
              have hx189 : sp_R K P V (3, a, dp, 10 :: sk, ld, nm, cs) (.inr f177) := sp_R_t hst165 hR178
              show yi_D zi_Ms d zi_m256 j9 (95, [(2, .inl 1), (4, .inl 0), (3, .inl y3), (0, .inr (.inr (some 11))), (1, .inl (dp : Int))], [], (I166, L167, R, Y), 0, 0) _
              refine yi_D_run 1 (97, [(2, .inl 1), (4, .inl 0), (3, .inl y3), (0, .inr (.inr (some 11))), (1, .inl (dp : Int))], [.inl 0], (I166, L167, R, Y), 0, 0) (fun _ => rfl) ?_
              refine yi_D_if1 true rfl (by decide) ?_
              refine yi_D_al (al := [(4, .inl 0), (3, .inl y3), (2, .inl 1), (0, .inr (.inr (some 11))), (1, .inl (dp : Int))]) (show ([4, 3, 2, 0, 1] : List Nat).Nodup by decide) (show ([2, 4, 3, 0, 1] : List Nat).Nodup by decide) (yi_mc (List.mem_of_getElem? (i := 2) rfl) (yi_mc (List.mem_of_getElem? (i := 0) rfl) (yi_mc (List.mem_of_getElem? (i := 1) rfl) (yi_mc (List.mem_of_getElem? (i := 3) rfl) (yi_mc (List.mem_of_getElem? (i := 4) rfl) yi_mn))))) ?_
              exact yi_D_mono (jn105f 0 y3 1 _ _ _ hF186 he180 hz179 hx189 ) (by omega)
        · refine yi_D_if2 true rfl (yi_ne_t h119) ?_
          refine yi_D_run 1 (112, [(3, .inl y3), (2, .inl y2), (0, .inr (.inr (some 11))), (1, .inl (dp : Int)), (4, .inl y4)], [.inl y2], (J1, G1, R, Y), 0, 0) (fun _ => rfl) ?_
          by_cases h190 : y2 = 0
          · refine yi_D_if1 true rfl (yi_eq_t h190) ?_
            refine yi_D_retv rfl ?_
            have hst6 : sp_R K P V (3, a, dp, 10 :: sk, ld, nm, cs) (.inl (6, a1, dp, sk, ld, nm, if ef = 11 then cs1 ++ [(10, 0)] else cs1)) := sp_R_s hR9 (by
              show (if K a1 = 31 then _ else _) = _
              rw [if_neg (by omega)])
            have hst7 : sp_R K P V (3, a, dp, 10 :: sk, ld, nm, cs) (.inl (7, a1, dp, sk, ld, nm, if ef = 11 then cs1 ++ [(10, 0)] else cs1)) := sp_R_s hst6 (by
              show (if K a1 = 32 then _ else _) = _
              rw [if_neg (by omega)])
            rw [if_neg (by omega)] at hst7
            exact ⟨_, _, rfl, hF9, Or.inl ⟨_, _, hst7, by omega, hf9, hA9, hcc9, by omega⟩⟩
          · refine yi_D_if1 false rfl (yi_eq_f h190) ?_
            refine yi_D_run 2 (117, [(3, .inl y3), (2, .inl y2), (0, .inr (.inr (some 11))), (1, .inl (dp : Int)), (4, .inl y4)], [.inl 3, .inr (.inr (some 11))], (J1, G1, R, Y), 0, 0) (fun _ => rfl) ?_
            refine yi_D_callv rfl (p_emitC hW9 hf9 (cc_u hcc9) (by omega)) ?_
            rintro _ ⟨I191, rfl, hE192⟩
            have hE193 := cc_E_E hE192
            have hcc194 := cc_push hcc9 hE192 (x := (10, 0)) trF_10 rfl (by decide)
            have hlnhcc194 := List.length_append (as := cs1) (bs := [(10, 0)])
            rw [List.length_singleton] at hlnhcc194
            have hW195 := cs_W_t hW9 (cs_E_F (L := G1) hE193)
            have hF196 := cs_F_t hF9 (cs_E_F hE193)
            have hf197 : I191 11 11 = 0 := (hE193 11 11 (by omega) (by omega)).trans hf9
            have hA198 := cs_A_e hA9 hE193
            show yi_D zi_Ms d zi_m256 j9 (120, [(3, .inl y3), (2, .inl y2), (0, .inr (.inr (some 11))), (1, .inl (dp : Int)), (4, .inl y4)], [], (I191, G1, R, Y), 0, 0) _
            refine yi_D_retv rfl ?_
            have hst6 : sp_R K P V (3, a, dp, 10 :: sk, ld, nm, cs) (.inl (6, a1, dp, sk, ld, nm, if ef = 11 then cs1 ++ [(10, 0)] else cs1)) := sp_R_s hR9 (by
              show (if K a1 = 31 then _ else _) = _
              rw [if_neg (by omega)])
            have hst7 : sp_R K P V (3, a, dp, 10 :: sk, ld, nm, cs) (.inl (7, a1, dp, sk, ld, nm, if ef = 11 then cs1 ++ [(10, 0)] else cs1)) := sp_R_s hst6 (by
              show (if K a1 = 32 then _ else _) = _
              rw [if_neg (by omega)])
            rw [if_pos (by omega)] at hst7
            exact ⟨_, _, rfl, hF196, Or.inl ⟨_, _, hst7, by omega, hf197, hA198, hcc194, by omega⟩⟩
    refine yi_D_al (al := [(3, .inl 0), (2, .inl 0), (0, .inr (.inr (some 11))), (1, .inl (dp : Int)), (4, .inl 0)]) (show ([3, 2, 0, 1, 4] : List Nat).Nodup by decide) (show ([3, 2, 0, 1] : List Nat).Nodup by decide) (yi_mc (List.mem_of_getElem? (i := 0) rfl) (yi_mc (List.mem_of_getElem? (i := 1) rfl) (yi_mc (List.mem_of_getElem? (i := 2) rfl) (yi_mc (List.mem_of_getElem? (i := 3) rfl) yi_mn)))) ?_
    exact pt9 k (Nat.le_refl _) 0 0 0 I10 L11 a13 cs14 10 (by omega) (by omega) (by omega) hF26 hf17 hA18 hR28 hcc19 (by omega)
  · have hW199 := cs_W_t hW hFr12
    have hF200 := hFr12
    have hF201 : ∀ p k, (p ≠ 11 ∧ p ≠ 19) → I10 p k = I p k := fun p k h => hFr12.1 p k h.1 h.2
    have hn202 : ¬ I10 11 11 = 0 := by rw [he24]; exact hz23
    have hx203 : sp_R K P V (3, a, dp, 10 :: sk, ld, nm, cs) (.inr f21) := hR22
    show yi_D zi_Ms d zi_m256 k (7, [(2, .inl 0), (0, .inr (.inr (some 11))), (1, .inl (dp : Int))], [], (I10, L11, R, Y), 0, 0) _
    refine yi_D_run 2 (9, [(3, .inl 0), (2, .inl 0), (0, .inr (.inr (some 11))), (1, .inl (dp : Int))], [], (I10, L11, R, Y), 0, 0) (fun _ => rfl) ?_
    refine yi_D_al (al := [(4, .inl 0), (3, .inl 0), (2, .inl 0), (0, .inr (.inr (some 11))), (1, .inl (dp : Int))]) (show ([4, 3, 2, 0, 1] : List Nat).Nodup by decide) (show ([3, 2, 0, 1] : List Nat).Nodup by decide) (yi_mc (List.mem_of_getElem? (i := 1) rfl) (yi_mc (List.mem_of_getElem? (i := 2) rfl) (yi_mc (List.mem_of_getElem? (i := 3) rfl) (yi_mc (List.mem_of_getElem? (i := 4) rfl) yi_mn)))) ?_
    exact yi_D_mono (jn9f 0 0 0 _ _ _ hF200 he24 hz23 hx203 ) (by omega)
theorem p_readRecC : ∀ d, cs_RIC d ∧ cs_RFC d
  | 0 => ⟨fun _ _ _ _ _ _ _ _ _ _ => yi_P_0, fun _ _ _ _ _ _ _ _ _ _ => yi_P_0⟩
  | d + 1 => by
    obtain ⟨h1, h2⟩ := p_readRecC d
    exact ⟨fun dp sk cs hW hf hA hd hda hcc hu => p_readItemC_s h1 h2 hW hf hA dp sk cs hd hda hcc hu, fun dp sk cs hW hf hA hd hda hcc hu => p_readFormulaC_s h1 hW hf hA dp sk cs hd hda hcc hu⟩
theorem p_readFormulaC {d : Nat} : cs_RFC d := (p_readRecC d).2
