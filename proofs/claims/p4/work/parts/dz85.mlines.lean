/-! The check: the lines of a land, with their codes. -/
/-- the codes of the lines read so far -/
def ml_L (I : Nat → Nat → Int) (ld : Nat → Int) (cs : List (Int × Int)) (j : Nat) : Prop := (I 88 (71 + j) = ld (21 + j) ∧ 0 ≤ ld (21 + j)) ∧ sgC cs (ld (21 + j)).toNat ∧ wfN 13 (sl ld cs j) ∧ ∀ c ∈ sl ld cs j, pF c
def ml_W (I : Nat → Nat → Int) (ld : Nat → Int) (cs : List (Int × Int)) (w : Nat) : Prop := (I 88 (75 + 3 * w) = ld (25 + 3 * w) ∧ I 88 (76 + 3 * w) = ld (26 + 3 * w) ∧ I 88 (77 + 3 * w) = ld (27 + 3 * w) ∧ 0 ≤ ld (27 + 3 * w) ∧ 0 ≤ ld (25 + 3 * w) ∧ ld (25 + 3 * w) ≤ 4) ∧ sgC cs (ld (27 + 3 * w)).toNat ∧ wfN 13 (sw ld cs w) ∧ ∀ c ∈ sw ld cs w, pF c
def ml_P (I : Nat → Nat → Int) (ld : Nat → Int) (cs : List (Int × Int)) : Prop := (I 88 56 < 0 ∧ ld 6 < 0) ∨ ((I 88 56 = ld 6 ∧ 0 ≤ ld 6) ∧ sgC cs (ld 6).toNat ∧ wfN 25 (sgm cs (ld 6).toNat) ∧ ∀ c ∈ sgm cs (ld 6).toNat, okP c)
def ml_S (gg : Nat → Int × Int) (I : Nat → Nat → Int) (ld : Nat → Int) (cs : List (Int × Int)) : Prop := mc_S gg I cs ∧ (∀ j : Nat, (j : Int) < ld 4 → ml_L I ld cs j) ∧ (∀ w : Nat, (w : Int) < ld 5 → ml_W I ld cs w) ∧ ml_P I ld cs
section MLS
variable {gg : Nat → Int × Int} {I I' : Nat → Nat → Int} {ld ld' : Nat → Int} {cs c2 y : List (Int × Int)} {j w n : Nat}
theorem pF_n {c : Int × Int} (h : pF c) : ¬ c.1 = 0 := by
  rcases h with z | ⟨z, -⟩ <;> omega
theorem okP_n {c : Int × Int} (h : okP c) : ¬ c.1 = 0 := by
  rcases h with z | z | z <;> omega
theorem mc_w (h : mc_S gg I cs) (f : ∀ p k, ¬ p = 88 → I' p k = I p k) : mc_S gg I' cs := ⟨(f 82 13 (by omega)).trans h.1, fun k hk => ⟨(f 89 _ (by omega)).trans (h.2.1 k hk).1, (f 90 _ (by omega)).trans (h.2.1 k hk).2⟩, fun k hk => ⟨(f 89 _ (by omega)).trans (h.2.2 k hk).1, (f 90 _ (by omega)).trans (h.2.2 k hk).2⟩⟩
theorem mc_o (h : mc_S gg I cs) (f : ∀ p k, p = 88 ∨ p = 89 ∨ p = 90 ∨ (p = 82 ∧ k = 13) → I' p k = I p k) : mc_S gg I' cs := ⟨(f 82 13 (by omega)).trans h.1, fun k hk => ⟨(f 89 _ (by omega)).trans (h.2.1 k hk).1, (f 90 _ (by omega)).trans (h.2.1 k hk).2⟩, fun k hk => ⟨(f 89 _ (by omega)).trans (h.2.2 k hk).1, (f 90 _ (by omega)).trans (h.2.2 k hk).2⟩⟩
theorem mlL_t (h : ml_L I ld cs j) (f : I' 88 (71 + j) = I 88 (71 + j)) (ej : ld' (21 + j) = ld (21 + j)) : ml_L I' ld' (cs ++ y) j := by
  obtain ⟨⟨a1, a2⟩, a3, a4, a5⟩ := h
  have es := sgm_app (y := y) a3
  have el : sl ld' (cs ++ y) j = sl ld cs j := by
    unfold sl
    rw [ej]
    exact es.1
  unfold ml_L
  rw [el, ej]
  exact ⟨⟨f.trans a1, a2⟩, es.2, a4, a5⟩
theorem mlW_t (h : ml_W I ld cs w) (f : ∀ k, 75 + 3 * w ≤ k → k ≤ 77 + 3 * w → I' 88 k = I 88 k) (e25 : ld' (25 + 3 * w) = ld (25 + 3 * w)) (e26 : ld' (26 + 3 * w) = ld (26 + 3 * w)) (e27 : ld' (27 + 3 * w) = ld (27 + 3 * w)) : ml_W I' ld' (cs ++ y) w := by
  obtain ⟨⟨a1, a2, a3, a4, a5⟩, b1, b2, b3⟩ := h
  have es := sgm_app (y := y) b1
  have el : sw ld' (cs ++ y) w = sw ld cs w := by
    unfold sw
    rw [e27]
    exact es.1
  unfold ml_W
  rw [el, e25, e26, e27]
  exact ⟨⟨(f _ (by omega) (by omega)).trans a1, (f _ (by omega) (by omega)).trans a2, (f _ (by omega) (by omega)).trans a3, a4, a5⟩, es.2, b2, b3⟩
theorem mlP_t (h : ml_P I ld cs) (f : I' 88 56 = I 88 56) (e6 : ld' 6 = ld 6) : ml_P I' ld' (cs ++ y) := by
  rcases h with ⟨a, b⟩ | ⟨⟨a, b⟩, c, d⟩
  · exact Or.inl ⟨by rw [f]; exact a, by rw [e6]; exact b⟩
  · have es := sgm_app (y := y) c
    right
    rw [e6, es.1]
    exact ⟨⟨f.trans a, b⟩, es.2, d⟩
theorem ml_A (h : ml_S gg I ld cs) (hmc : mc_S gg I' cs) (f : ∀ k, k = 56 ∨ 71 ≤ k → I' 88 k = I 88 k) (e4 : ∀ j, (4 ≤ j ∧ j ≤ 6) ∨ 21 ≤ j → ld' j = ld j) : ml_S gg I' ld' cs := by
  obtain ⟨-, hl, hw, hp⟩ := h
  refine ⟨hmc, fun j hj => ?_, fun w hj => ?_, ?_⟩
  · rw [e4 4 (by omega)] at hj
    have z := mlL_t (y := []) (ld' := ld') (hl j hj) (f (71 + j) (by omega)) (e4 _ (by omega))
    rw [List.append_nil] at z
    exact z
  · rw [e4 5 (by omega)] at hj
    have z := mlW_t (y := []) (ld' := ld') (hw w hj) (fun k a b => f k (by omega)) (e4 _ (by omega)) (e4 _ (by omega)) (e4 _ (by omega))
    rw [List.append_nil] at z
    exact z
  · have z := mlP_t (y := []) (ld' := ld') hp (f 56 (by omega)) (e4 _ (by omega))
    rw [List.append_nil] at z
    exact z
theorem ml_law (h : ml_S gg I ld cs) (hn : ld 4 = (n : Int)) (hn4 : n < 4) (hmc : mc_S gg I' (c2 ++ [(0, 0)])) (hwf : wfX pF 13 cs c2) (e : I' 88 (71 + n) = (cs.length : Int)) (f : ∀ k, k = 56 ∨ 71 ≤ k → ¬ k = 71 + n → I' 88 k = I 88 k) (hld : ld' = sp_up (sp_up ld (21 + n) (cs.length : Int)) 4 ((n : Int) + 1)) : ml_S gg I' ld' (c2 ++ [(0, 0)]) := by
  obtain ⟨x, ex, wx, px⟩ := hwf
  obtain ⟨s1, s2⟩ := sgm_new ex (fun c hc => pF_n (px c hc))
  have d0 : ∀ k, ¬ k = 4 → ¬ k = 21 + n → ld' k = ld k := fun k h1 h2 => by rw [hld, sp_up_n _ _ h1, sp_up_n _ _ h2]
  have d1 : ld' (21 + n) = (cs.length : Int) := by rw [hld, sp_up_n _ _ (by omega), sp_up_e]
  have d4 : ld' 4 = (n : Int) + 1 := by rw [hld, sp_up_e]
  have hcs : c2 ++ [(0, 0)] = cs ++ (x ++ [(0, 0)]) := by rw [ex, List.append_assoc]
  obtain ⟨-, hl, hw, hp⟩ := h
  refine ⟨hmc, fun j hj => ?_, fun w hj => ?_, ?_⟩
  · rw [d4] at hj
    by_cases c : j = n
    · rw [c]
      have es : sl ld' (c2 ++ [(0, 0)]) n = x := by
        unfold sl
        rw [d1, Int.toNat_natCast]
        exact s1
      unfold ml_L
      rw [es, d1, Int.toNat_natCast]
      exact ⟨⟨e, by omega⟩, s2, wx, px⟩
    · rw [hcs]
      exact mlL_t (hl j (by omega)) (f _ (by omega) (by omega)) (d0 _ (by omega) (by omega))
  · rw [d0 5 (by omega) (by omega)] at hj
    rw [hcs]
    exact mlW_t (hw w hj) (fun k a b => f k (by omega) (by omega)) (d0 _ (by omega) (by omega)) (d0 _ (by omega) (by omega)) (d0 _ (by omega) (by omega))
  · rw [hcs]
    exact mlP_t hp (f 56 (by omega) (by omega)) (d0 _ (by omega) (by omega))
theorem ml_wish {who cn : Int} (hwho : 0 ≤ who ∧ who ≤ 4) (h : ml_S gg I ld cs) (hn : ld 5 = (n : Int)) (hn6 : n < 6) (h44 : ld 4 ≤ 4) (hmc : mc_S gg I' (c2 ++ [(0, 0)])) (hwf : wfX pF 13 cs c2) (e1 : I' 88 (75 + 3 * n) = who) (e2 : I' 88 (76 + 3 * n) = cn) (e3 : I' 88 (77 + 3 * n) = (cs.length : Int)) (f : ∀ k, k = 56 ∨ 71 ≤ k → ¬ k = 75 + 3 * n → ¬ k = 76 + 3 * n → ¬ k = 77 + 3 * n → I' 88 k = I 88 k) (hld : ld' = sp_up (sp_up (sp_up (sp_up ld (25 + 3 * n) who) (26 + 3 * n) cn) (27 + 3 * n) (cs.length : Int)) 5 ((n : Int) + 1)) : ml_S gg I' ld' (c2 ++ [(0, 0)]) := by
  obtain ⟨x, ex, wx, px⟩ := hwf
  obtain ⟨s1, s2⟩ := sgm_new ex (fun c hc => pF_n (px c hc))
  have d0 : ∀ k, ¬ k = 5 → ¬ k = 25 + 3 * n → ¬ k = 26 + 3 * n → ¬ k = 27 + 3 * n → ld' k = ld k := fun k h1 h2 h3 h4 => by rw [hld, sp_up_n _ _ h1, sp_up_n _ _ h4, sp_up_n _ _ h3, sp_up_n _ _ h2]
  have d25 : ld' (25 + 3 * n) = who := by rw [hld, sp_up_n _ _ (by omega), sp_up_n _ _ (by omega), sp_up_n _ _ (by omega), sp_up_e]
  have d26 : ld' (26 + 3 * n) = cn := by rw [hld, sp_up_n _ _ (by omega), sp_up_n _ _ (by omega), sp_up_e]
  have d27 : ld' (27 + 3 * n) = (cs.length : Int) := by rw [hld, sp_up_n _ _ (by omega), sp_up_e]
  have d5 : ld' 5 = (n : Int) + 1 := by rw [hld, sp_up_e]
  have hcs : c2 ++ [(0, 0)] = cs ++ (x ++ [(0, 0)]) := by rw [ex, List.append_assoc]
  obtain ⟨-, hl, hw, hp⟩ := h
  refine ⟨hmc, fun j hj => ?_, fun w hj => ?_, ?_⟩
  · rw [d0 4 (by omega) (by omega) (by omega) (by omega)] at hj
    rw [hcs]
    exact mlL_t (hl j hj) (f _ (by omega) (by omega) (by omega) (by omega)) (d0 _ (by omega) (by omega) (by omega) (by omega))
  · rw [d5] at hj
    by_cases c : w = n
    · rw [c]
      have es : sw ld' (c2 ++ [(0, 0)]) n = x := by
        unfold sw
        rw [d27, Int.toNat_natCast]
        exact s1
      unfold ml_W
      rw [es, d25, d26, d27, Int.toNat_natCast]
      exact ⟨⟨e1, e2, e3, by omega, hwho⟩, s2, wx, px⟩
    · rw [hcs]
      exact mlW_t (hw w (by omega)) (fun k a b => f k (by omega) (by omega) (by omega) (by omega)) (d0 _ (by omega) (by omega) (by omega) (by omega)) (d0 _ (by omega) (by omega) (by omega) (by omega)) (d0 _ (by omega) (by omega) (by omega) (by omega))
  · rw [hcs]
    exact mlP_t hp (f 56 (by omega) (by omega) (by omega) (by omega)) (d0 _ (by omega) (by omega) (by omega) (by omega))
theorem ml_price (h : ml_S gg I ld cs) (hmc : mc_S gg I' (c2 ++ [(0, 0)])) (hwf : wfX okP 25 cs c2) (e : I' 88 56 = (cs.length : Int)) (f : ∀ k, 71 ≤ k → I' 88 k = I 88 k) : ml_S gg I' (sp_up ld 6 (cs.length : Nat)) (c2 ++ [(0, 0)]) := by
  obtain ⟨x, ex, wx, px⟩ := hwf
  obtain ⟨s1, s2⟩ := sgm_new ex (fun c hc => okP_n (px c hc))
  have d0 : ∀ k, ¬ k = 6 → sp_up ld 6 (cs.length : Nat) k = ld k := fun k h1 => sp_up_n _ _ h1
  have hcs : c2 ++ [(0, 0)] = cs ++ (x ++ [(0, 0)]) := by rw [ex, List.append_assoc]
  obtain ⟨-, hl, hw, -⟩ := h
  refine ⟨hmc, fun j hj => ?_, fun w hj => ?_, ?_⟩
  · rw [d0 4 (by omega)] at hj
    rw [hcs]
    exact mlL_t (hl j hj) (f _ (by omega)) (d0 _ (by omega))
  · rw [d0 5 (by omega)] at hj
    rw [hcs]
    exact mlW_t (hw w hj) (fun k a b => f k (by omega)) (d0 _ (by omega)) (d0 _ (by omega)) (d0 _ (by omega))
  · right
    rw [sp_up_e, Int.toNat_natCast, s1]
    exact ⟨⟨e, by omega⟩, s2, wx, px⟩
end MLS
/-- what a line leaves: all but the reader's own, the land's cells behind 50, codes behind 1100 -/
def ml_F (I L I' L' : Nat → Nat → Int) : Prop := (∀ p k, ¬ (p = 82 ∧ (k = 7 ∨ k = 8 ∨ k = 13 ∨ k = 19)) ∧ ¬ p = 94 ∧ ¬ (p = 88 ∧ 50 ≤ k) ∧ ¬ (p = 89 ∧ 1100 ≤ k) ∧ ¬ (p = 90 ∧ 1100 ≤ k) → I' p k = I p k) ∧ ∀ p k, ¬ p = 92 → L' p k = L p k
theorem ml_o {gg : Nat → Int × Int} {I I' : Nat → Nat → Int} {ld : Nat → Int} {cs : List (Int × Int)} (h : ml_S gg I ld cs) (f : ∀ p k, p = 88 ∨ p = 89 ∨ p = 90 ∨ (p = 82 ∧ k = 13) → I' p k = I p k) : ml_S gg I' ld cs := ml_A h (mc_o h.1 f) (fun k _ => f 88 k (by omega)) (fun _ _ => rfl)
def mt_QLC (gg : Nat → Int × Int) (I L : Nat → Nat → Int) (R : Nat → Nat → Option Nat) (Y : (Nat → Nat) × (Nat → Nat) × Nat) (K P V : Nat → Int) (te : Nat) (c : sp_C) (a : Nat) (r : yi_R) : Prop := ∃ I' L', r = (none, (I', L', R, Y), 0, 0) ∧ ml_F I L I' L' ∧ ((∃ a' ld' nm' cs', sp_R K P V c (.inl (1, a', 0, [], ld', nm', cs')) ∧ a < a' ∧ I' 82 8 = 0 ∧ mt_A I' te a' ∧ mt_W I' L' R Y K P V te 50 ld' nm' ∧ 1 ≤ ld' 0 ∧ (ld' 6 < 0 → I' 88 56 < 0) ∧ ml_S gg I' ld' cs') ∨ (∃ f, sp_R K P V c (.inr f) ∧ 0 < f ∧ I' 82 8 = f))
theorem q_readNameC {d : Nat} {I L : Nat → Nat → Int} {R : Nat → Nat → Option Nat} {Y : (Nat → Nat) × (Nat → Nat) × Nat} {c : Int} (hc : 0 ≤ c ∧ c ≤ 12) {K P V : Nat → Int} {te a : Nat} {ld : Nat → Int} {nm : Int → Int} (hW : mt_W I L R Y K P V te 50 ld nm) (hf : I 82 8 = 0) (hA : mt_A I te a) (hk0 : ¬ K a = 0) : yi_P zi_Ms d 100 [.inr (.inr (some 82)), .inl c] (I, L, R, Y) (fun r => (K (a + 1) = 3 ∧ (¬ 0 ≤ nm (V (a + 1))) ∧ ∃ I' L', r = (none, (I', L', R, Y), 0, 0) ∧ (∀ p k, ¬ (p = 82 ∧ (k = 7 ∨ k = 8 ∨ k = 19)) ∧ ¬ p = 94 → I' p k = I p k) ∧ (∀ p k, ¬ p = 92 → L' p k = L p k) ∧ I' 82 8 = 0 ∧ mt_A I' te (a + 2) ∧ mt_W I' L' R Y K P V te 50 ld (sp_un nm (V (a + 1)) c)) ∨ (¬ K (a + 1) = 3 ∧ ∃ I', r = (none, (I', L, R, Y), 0, 0) ∧ mt_G I I' ∧ I' 82 8 = sp_f P (a + 1) 1) ∨ ((K (a + 1) = 3 ∧ 0 ≤ nm (V (a + 1))) ∧ ∃ I', r = (none, (I', L, R, Y), 0, 0) ∧ mt_G I I' ∧ I' 82 8 = sp_f P (a + 1) 3)) := by
  refine yi_P_of (M := zi_m100) rfl (fun d k => ?_)
  have hS := hW.1
  have ht := hW.2.1.1
  have ha := hA.2
  have hp := hW.2.1.2.1 a hA.2
  have hl92 : Y.2.1 92 = 13 := (ym_S_at hS (j := 9) rfl).2.2
  show yi_D zi_Ms d zi_m100 k (0, [(0, .inr (.inr (some 82))), (1, .inl c)], [], (I, L, R, Y), 0, 0) _
  refine yi_D_run 2 (2, [(0, .inr (.inr (some 82))), (1, .inl c)], [.inr (.inr (some 82)), .inr (.inr (some 82))], (I, L, R, Y), 0, 0) (fun _ => rfl) ?_
  refine yi_D_gi (v := (a : Int)) rfl rfl rfl hA.1 (fun _ => ?_)
  refine yi_D_run 1 (6, [(0, .inr (.inr (some 82))), (1, .inl c)], [.inl 1, .inl (a : Int), .inr (.inr (some 82))], (I, L, R, Y), 0, 0) (fun _ => rfl) ?_
  refine yi_D_iadd rfl ((a : Int) + 1) (yi_wn (by omega) (by omega)) ?_
  refine yi_D_pi rfl (fun _ => ?_)
  generalize w2 : yi_u I 82 7 ((a : Int) + 1) = I1
  have hGn3 : mt_G I I1 := fun p k hp => by rw [← w2, yi_u_ne _ _ (by omega)]
  have hW4 := mt_W_t hW (mt_G_F hGn3)
  have hF5 := (mt_G_F hGn3)
  have hG6 := hGn3
  have hf7 : I1 82 8 = 0 := by rw [← w2, yi_u_ne _ _ (by omega)]; exact hf
  have hA8 : mt_A I1 te (a + 1) := ⟨by rw [← w2, yi_u_eq]; omega, mt_lt hW4.2.1 hA.2 (by omega)⟩
  refine yi_D_run 1 (11, [(0, .inr (.inr (some 82))), (1, .inl c)], [.inr (.inr (some 82))], (I1, L, R, Y), 0, 0) (fun _ => rfl) ?_
  refine yi_D_callv rfl (q_isName_z hW4 hf7 hA8) ?_
  rintro _ (⟨c9, rfl⟩ | ⟨c9, rfl⟩)
  · show yi_D zi_Ms d zi_m100 k (14, [(0, .inr (.inr (some 82))), (1, .inl c)], [.inl 1], (I1, L, R, Y), 0, 0) _
    refine yi_D_if1 true rfl (by decide) ?_
    refine yi_D_run 1 (26, [(0, .inr (.inr (some 82))), (1, .inl c)], [.inr (.inr (some 82))], (I1, L, R, Y), 0, 0) (fun _ => rfl) ?_
    refine yi_D_callv rfl (q_find_z hW4 hf7 hA8 (by omega)) ?_
    rintro _ rfl
    show yi_D zi_Ms d zi_m100 k (29, [(0, .inr (.inr (some 82))), (1, .inl c)], [.inl (nm (V (a + 1)))], (I1, L, R, Y), 0, 0) _
    by_cases h10 : (nm (V (a + 1))) < 0
    · refine yi_D_if1 true rfl (yi_lt_t h10) ?_
      refine yi_D_run 1 (38, [(0, .inr (.inr (some 82))), (1, .inl c)], [.inr (.inr (some 82))], (I1, L, R, Y), 0, 0) (fun _ => rfl) ?_
      refine yi_D_gi (v := 0) rfl rfl rfl hf7 (fun _ => ?_)
      refine yi_D_if1 false rfl (by decide) ?_
      refine yi_D_run 1 (45, [(0, .inr (.inr (some 82))), (1, .inl c)], [.inr (.inr (some 82))], (I1, L, R, Y), 0, 0) (fun _ => rfl) ?_
      refine yi_D_gr (v := some 92) rfl rfl rfl (ym_S_at hS (j := 9) rfl).1 (fun _ => ?_)
      refine yi_D_run 1 (49, [(0, .inr (.inr (some 82))), (1, .inl c)], [.inr (.inr (some 82)), .inr (.inr (some 92))], (I1, L, R, Y), 0, 0) (fun _ => rfl) ?_
      have r11 : I1 82 19 = I 82 19 := by rw [hGn3 82 19 (by omega)]
      refine yi_D_gi (v := I 82 19) rfl rfl rfl r11 (fun _ => ?_)
      refine yi_D_run 1 (53, [(0, .inr (.inr (some 82))), (1, .inl c)], [.inr (.inr (some 82)), .inl (I 82 19), .inr (.inr (some 92))], (I1, L, R, Y), 0, 0) (fun _ => rfl) ?_
      refine yi_D_gr (v := some 86) rfl rfl rfl (ym_S_at hS (j := 3) rfl).1 (fun _ => ?_)
      refine yi_D_run 1 (57, [(0, .inr (.inr (some 82))), (1, .inl c)], [.inr (.inr (some 82)), .inr (.inr (some 86)), .inl (I 82 19), .inr (.inr (some 92))], (I1, L, R, Y), 0, 0) (fun _ => rfl) ?_
      refine yi_D_gi (v := ((a + 1 : Nat) : Int)) rfl rfl rfl hA8.1 (fun _ => ?_)
      refine yi_D_ll (v := L 86 (((a + 1 : Nat) : Int).toNat)) rfl rfl rfl (fun b12 b13 => ?_)
      have hv3 : L 86 (((a + 1 : Nat) : Int).toNat) = V (a + 1) := (hW4.2.1.2.1 (a + 1) hA8.2).2.2.2.2.1 (by omega)
      refine yi_D_ls rfl (fun b14 b15 => ?_)
      generalize w17 : yi_u L 92 ((I 82 19).toNat) (L 86 (((a + 1 : Nat) : Int).toNat)) = L16
      refine yi_D_run 1 (63, [(0, .inr (.inr (some 82))), (1, .inl c)], [.inr (.inr (some 82))], (I1, L16, R, Y), 0, 0) (fun _ => rfl) ?_
      refine yi_D_gr (v := some 94) rfl rfl rfl (ym_S_at hS (j := 11) rfl).1 (fun _ => ?_)
      refine yi_D_run 1 (67, [(0, .inr (.inr (some 82))), (1, .inl c)], [.inr (.inr (some 82)), .inr (.inr (some 94))], (I1, L16, R, Y), 0, 0) (fun _ => rfl) ?_
      have r18 : I1 82 19 = I 82 19 := by rw [hGn3 82 19 (by omega)]
      refine yi_D_gi (v := I 82 19) rfl rfl rfl r18 (fun _ => ?_)
      refine yi_D_run 1 (71, [(0, .inr (.inr (some 82))), (1, .inl c)], [.inl c, .inl (I 82 19), .inr (.inr (some 94))], (I1, L16, R, Y), 0, 0) (fun _ => rfl) ?_
      refine yi_D_is rfl (fun b19 b20 => ?_)
      generalize w22 : yi_u I1 94 ((I 82 19).toNat) c = I21
      refine yi_D_run 2 (74, [(0, .inr (.inr (some 82))), (1, .inl c)], [.inr (.inr (some 82)), .inr (.inr (some 82))], (I21, L16, R, Y), 0, 0) (fun _ => rfl) ?_
      have r23 : I21 82 19 = I 82 19 := by rw [← w22, yi_u_ne _ _ (by omega), hGn3 82 19 (by omega)]
      refine yi_D_gi (v := I 82 19) rfl rfl rfl r23 (fun _ => ?_)
      refine yi_D_run 1 (78, [(0, .inr (.inr (some 82))), (1, .inl c)], [.inl 1, .inl (I 82 19), .inr (.inr (some 82))], (I21, L16, R, Y), 0, 0) (fun _ => rfl) ?_
      refine yi_D_iadd rfl ((I 82 19) + 1) (yi_wn (by omega) (by omega)) ?_
      refine yi_D_pi rfl (fun _ => ?_)
      generalize w25 : yi_u I21 82 19 ((I 82 19) + 1) = I24
      refine yi_D_run 2 (84, [(0, .inr (.inr (some 82))), (1, .inl c)], [.inr (.inr (some 82)), .inr (.inr (some 82))], (I24, L16, R, Y), 0, 0) (fun _ => rfl) ?_
      have r26 : I24 82 7 = ((a + 1 : Nat) : Int) := by rw [← w25, yi_u_ne _ _ (by omega), ← w22, yi_u_ne _ _ (by omega), hA8.1]
      refine yi_D_gi (v := ((a + 1 : Nat) : Int)) rfl rfl rfl r26 (fun _ => ?_)
      refine yi_D_run 1 (88, [(0, .inr (.inr (some 82))), (1, .inl c)], [.inl 1, .inl ((a + 1 : Nat) : Int), .inr (.inr (some 82))], (I24, L16, R, Y), 0, 0) (fun _ => rfl) ?_
      refine yi_D_iadd rfl (((a + 1 : Nat) : Int) + 1) (yi_wn (by omega) (by omega)) ?_
      refine yi_D_pi rfl (fun _ => ?_)
      generalize w28 : yi_u I24 82 7 (((a + 1 : Nat) : Int) + 1) = I27
      refine yi_D_retv rfl ?_
      exact Or.inl ⟨by omega, by omega, _, _, rfl, fun p k hp => by rw [← w28, yi_u_ne _ _ (by omega), ← w25, yi_u_ne _ _ (by omega), ← w22, yi_u_ne _ _ (by omega), ← w2, yi_u_ne _ _ (by omega)], fun p k hp => by rw [← w17, yi_u_ne _ _ (by omega)], by rw [← w28, yi_u_ne _ _ (by omega), ← w25, yi_u_ne _ _ (by omega), ← w22, yi_u_ne _ _ (by omega), ← w2, yi_u_ne _ _ (by omega)]; exact hf, ⟨by rw [← w28, yi_u_eq]; omega, by have := hA8.2; have := mt_lt hW4.2.1 hA8.2 (by omega); omega⟩, mt_W_name hW rfl (by rw [← w17, yi_u_eq]; exact hv3) (by rw [← w28, yi_u_ne _ _ (by omega), ← w25, yi_u_ne _ _ (by omega), ← w22, yi_u_eq]) (by rw [← w28, yi_u_ne _ _ (by omega), ← w25, yi_u_eq]) (fun p k hp => by rw [← w17, yi_u_ne _ _ hp]) (fun p k hp => by rw [← w28, yi_u_ne _ _ (by omega), ← w25, yi_u_ne _ _ (by omega), ← w22, yi_u_ne _ _ (by omega), ← w2, yi_u_ne _ _ (by omega)]) (by omega) hc (by omega)⟩
    · refine yi_D_if1 false rfl (yi_lt_f h10) ?_
      refine yi_D_run 2 (34, [(0, .inr (.inr (some 82))), (1, .inl c)], [.inl 3, .inr (.inr (some 82))], (I1, L, R, Y), 0, 0) (fun _ => rfl) ?_
      refine yi_D_callv rfl (q_wrong_z ⟨by omega, by omega⟩ hW4 hf7 hA8) ?_
      rintro _ ⟨I29, rfl, hg30, he31⟩
      have hGw32 : mt_G I1 I29 := fun p k hp => hg30 p k (by omega)
      have hW33 := mt_W_t hW4 (mt_G_F hGw32)
      have hF34 := mt_F_t hF5 (mt_G_F hGw32)
      have hG35 := mt_G_t hG6 hGw32
      have hz36 : 0 < sp_f P (a + 1) 3 := mt_f_ne hW4 hA8.2 (by omega)
      have hn37 : 0 < I29 82 8 := by rw [he31]; exact hz36
      show yi_D zi_Ms d zi_m100 k (37, [(0, .inr (.inr (some 82))), (1, .inl c)], [], (I29, L, R, Y), 0, 0) _
      refine yi_D_run 1 (38, [(0, .inr (.inr (some 82))), (1, .inl c)], [.inr (.inr (some 82))], (I29, L, R, Y), 0, 0) (fun _ => rfl) ?_
      refine yi_D_gi (v := I29 82 8) rfl rfl rfl rfl (fun _ => ?_)
      have h38 : ¬ ((I29 82 8) = 0) := by omega
      refine yi_D_if1 true rfl (yi_ne_t h38) ?_
      refine yi_D_retv rfl ?_
      first
      | exact Or.inr (Or.inl ⟨by omega, _, rfl, hG35, he31⟩)
      | exact Or.inr (Or.inr ⟨⟨by omega, by omega⟩, _, rfl, hG35, he31⟩)
  · show yi_D zi_Ms d zi_m100 k (14, [(0, .inr (.inr (some 82))), (1, .inl c)], [.inl 0], (I1, L, R, Y), 0, 0) _
    refine yi_D_if1 false rfl (by decide) ?_
    refine yi_D_run 2 (19, [(0, .inr (.inr (some 82))), (1, .inl c)], [.inl 1, .inr (.inr (some 82))], (I1, L, R, Y), 0, 0) (fun _ => rfl) ?_
    refine yi_D_callv rfl (q_wrong_z ⟨by omega, by omega⟩ hW4 hf7 hA8) ?_
    rintro _ ⟨I39, rfl, hg40, he41⟩
    have hGw42 : mt_G I1 I39 := fun p k hp => hg40 p k (by omega)
    have hW43 := mt_W_t hW4 (mt_G_F hGw42)
    have hF44 := mt_F_t hF5 (mt_G_F hGw42)
    have hG45 := mt_G_t hG6 hGw42
    have hz46 : 0 < sp_f P (a + 1) 1 := mt_f_ne hW4 hA8.2 (by omega)
    have hn47 : 0 < I39 82 8 := by rw [he41]; exact hz46
    show yi_D zi_Ms d zi_m100 k (22, [(0, .inr (.inr (some 82))), (1, .inl c)], [], (I39, L, R, Y), 0, 0) _
    refine yi_D_run 2 (38, [(0, .inr (.inr (some 82))), (1, .inl c)], [.inr (.inr (some 82))], (I39, L, R, Y), 0, 0) (fun _ => rfl) ?_
    refine yi_D_gi (v := I39 82 8) rfl rfl rfl rfl (fun _ => ?_)
    have h48 : ¬ ((I39 82 8) = 0) := by omega
    refine yi_D_if1 true rfl (yi_ne_t h48) ?_
    refine yi_D_retv rfl ?_
    first
    | exact Or.inr (Or.inl ⟨by omega, _, rfl, hG45, he41⟩)
    | exact Or.inr (Or.inr ⟨⟨by omega, by omega⟩, _, rfl, hG45, he41⟩)
theorem q_readPersonC {d : Nat} {I L : Nat → Nat → Int} {R : Nat → Nat → Option Nat} {Y : (Nat → Nat) × (Nat → Nat) × Nat} {K P V : Nat → Int} {te a : Nat} {ld : Nat → Int} {nm : Int → Int} (hW : mt_W I L R Y K P V te 50 ld nm) (hf : I 82 8 = 0) (hA : mt_A I te a) (cs : List (Int × Int)) (hd0 : 1 ≤ ld 0) (h6 : ld 6 < 0 → I 88 56 < 0) {gg : Nat → Int × Int} (hml : ml_S gg I ld cs) (hk : K a = 5) : yi_P zi_Ms d 101 [.inr (.inr (some 82))] (I, L, R, Y) (mt_QLC gg I L R Y K P V te (2, a, 0, [], ld, nm, cs) a) := by
  refine yi_P_of (M := zi_m101) rfl (fun d k => ?_)
  have hS := hW.1
  have ht := hW.2.1.1
  have ha := hA.2
  have hp := hW.2.1.2.1 a hA.2
  have hbd := hW.2.2.2.2.2.2.1
  have hc3 : I 88 56 < 0 → ld 6 < 0 := hW.2.2.2.2.1
  have hm := hml.1
  show yi_D zi_Ms d zi_m101 k (0, [(0, .inr (.inr (some 82)))], [], (I, L, R, Y), 0, 0) _
  refine yi_D_run 1 (1, [(0, .inr (.inr (some 82)))], [.inr (.inr (some 82))], (I, L, R, Y), 0, 0) (fun _ => rfl) ?_
  refine yi_D_gr (v := some 88) rfl rfl rfl (ym_S_at hS (j := 5) rfl).1 (fun _ => ?_)
  refine yi_D_run 1 (6, [(0, .inr (.inr (some 82)))], [.inl 51, .inr (.inr (some 88))], (I, L, R, Y), 0, 0) (fun _ => rfl) ?_
  refine yi_D_il (v := ld 1) rfl rfl (show I 88 51 = ld 1 from hW.2.2.2.1 1 (by omega)) (fun _ _ => ?_)
  refine yi_D_run 3 (10, [(1, .inl (ld 1)), (0, .inr (.inr (some 82)))], [.inl 4, .inl (ld 1)], (I, L, R, Y), 0, 0) (fun _ => rfl) ?_
  by_cases h1 : (ld 1) = 4
  · refine yi_D_if2 true rfl (yi_eq_t h1) ?_
    refine yi_D_run 2 (38, [(1, .inl (ld 1)), (0, .inr (.inr (some 82)))], [.inl 5, .inr (.inr (some 82))], (I, L, R, Y), 0, 0) (fun _ => rfl) ?_
    refine yi_D_callv rfl (q_wrong_z ⟨by omega, by omega⟩ hW hf hA) ?_
    rintro _ ⟨I2, rfl, hg3, he4⟩
    have hGw5 : mt_G I I2 := fun p k hp => hg3 p k (by omega)
    have hW6 := mt_W_t hW (mt_G_F hGw5)
    have hmc7 := mc_G hm hGw5
    have hz8 : 0 < sp_f P a 5 := mt_f_ne hW hA.2 (by omega)
    have hn9 : 0 < I2 82 8 := by rw [he4]; exact hz8
    have hx10 : sp_R K P V (2, a, 0, [], ld, nm, cs) (.inr (sp_f P a 5)) := sp_R_1 (by
      show sp_line K P V a ld nm cs = _
      first
      | (exfalso; omega)
      | (unfold sp_line; (repeat (first | rw [if_pos (by omega)] | rw [if_neg (by omega)])); unfold sp_person; (repeat (first | rw [if_pos (by omega)] | rw [if_neg (by omega)])); done))
    show yi_D zi_Ms d zi_m101 k (41, [(1, .inl (ld 1)), (0, .inr (.inr (some 82)))], [], (I2, L, R, Y), 0, 0) _
    refine yi_D_retv rfl ?_
    exact ⟨_, _, rfl, ⟨fun p k hp => by rw [hGw5 p k (by omega)], fun p k hp => rfl⟩, Or.inr ⟨_, hx10, hz8, he4⟩⟩
  · refine yi_D_if2 false rfl (yi_eq_f h1) ?_
    refine yi_D_run 1 (14, [(1, .inl (ld 1)), (0, .inr (.inr (some 82)))], [.inr (.inr (some 82))], (I, L, R, Y), 0, 0) (fun _ => rfl) ?_
    refine yi_D_gr (v := some 88) rfl rfl rfl (ym_S_at hS (j := 5) rfl).1 (fun _ => ?_)
    refine yi_D_run 1 (19, [(1, .inl (ld 1)), (0, .inr (.inr (some 82)))], [.inl 50, .inr (.inr (some 88))], (I, L, R, Y), 0, 0) (fun _ => rfl) ?_
    refine yi_D_il (v := ld 0) rfl rfl (show I 88 50 = ld 0 from hW.2.2.2.1 0 (by omega)) (fun _ _ => ?_)
    refine yi_D_run 2 (22, [(1, .inl (ld 1)), (0, .inr (.inr (some 82)))], [.inl 1, .inl (ld 1), .inl (ld 0)], (I, L, R, Y), 0, 0) (fun _ => rfl) ?_
    refine yi_D_iadd rfl ((ld 1) + 1) (yi_wn (by omega) (by omega)) ?_
    refine yi_D_run 1 (24, [(1, .inl (ld 1)), (0, .inr (.inr (some 82)))], [.inr (.inr (some 82)), .inl ((ld 1) + 1), .inl (ld 0)], (I, L, R, Y), 0, 0) (fun _ => rfl) ?_
    refine yi_D_gr (v := some 88) rfl rfl rfl (ym_S_at hS (j := 5) rfl).1 (fun _ => ?_)
    refine yi_D_run 1 (29, [(1, .inl (ld 1)), (0, .inr (.inr (some 82)))], [.inl 52, .inr (.inr (some 88)), .inl ((ld 1) + 1), .inl (ld 0)], (I, L, R, Y), 0, 0) (fun _ => rfl) ?_
    refine yi_D_il (v := ld 2) rfl rfl (show I 88 52 = ld 2 from hW.2.2.2.1 2 (by omega)) (fun _ _ => ?_)
    refine yi_D_calls rfl (q_futuresOf (by omega) (by omega) (by omega)) ?_
    rintro _ ⟨z11, rfl, hz12⟩
    show yi_D zi_Ms d zi_m101 k (33, [(1, .inl (ld 1)), (0, .inr (.inr (some 82)))], [.inl z11], (I, L, R, Y), 0, 0) _
    by_cases h13 : 0 ≤ z11
    · refine yi_D_if1 true rfl (yi_ge_t h13) ?_
      refine yi_D_run 2 (44, [(1, .inl (ld 1)), (0, .inr (.inr (some 82)))], [.inl (ld 1), .inr (.inr (some 82))], (I, L, R, Y), 0, 0) (fun _ => rfl) ?_
      refine yi_D_callv rfl (q_readNameC ⟨by omega, by omega⟩ hW hf hA (by omega)) ?_
      rintro _ (⟨c16, c17, I14, L15, rfl, h8818, hL30, hf19, hA20, hW21⟩ | ⟨c22, I23, rfl, hGa24, he25⟩ | ⟨c26, I27, rfl, hGa28, he29⟩)
      · have hmc31 := mc_o hm (fun p k h => h8818 p k (by omega))
        show yi_D zi_Ms d zi_m101 k (47, [(1, .inl (ld 1)), (0, .inr (.inr (some 82)))], [], (I14, L15, R, Y), 0, 0) _
        refine yi_D_run 1 (48, [(1, .inl (ld 1)), (0, .inr (.inr (some 82)))], [.inr (.inr (some 82))], (I14, L15, R, Y), 0, 0) (fun _ => rfl) ?_
        refine yi_D_gr (v := some 88) rfl rfl rfl (ym_S_at hS (j := 5) rfl).1 (fun _ => ?_)
        refine yi_D_run 2 (54, [(1, .inl (ld 1)), (0, .inr (.inr (some 82)))], [.inl (ld 1), .inl 57, .inr (.inr (some 88))], (I14, L15, R, Y), 0, 0) (fun _ => rfl) ?_
        refine yi_D_iadd rfl (57 + (ld 1)) (yi_wn (by omega) (by omega)) ?_
        refine yi_D_run 4 (60, [(1, .inl (ld 1)), (0, .inr (.inr (some 82)))], [.inl 99, .inl 0, .inl 2, .inr (.inr (some 82)), .inl (57 + (ld 1)), .inr (.inr (some 88))], (I14, L15, R, Y), 0, 0) (fun _ => rfl) ?_
        refine yi_D_callv rfl (q_takeAfter_z (lo := 0) (hi := 99) (by omega) (by omega) hW21 hf19 hA20) ?_
        rintro _ (⟨c32, c33, c34, I35, rfl, hGa36, hf37, hA38⟩ | ⟨c39, z43, I40, rfl, hGa41, he42⟩ | ⟨c44, z48, I45, rfl, hGa46, he47⟩ | ⟨c49, z53, I50, rfl, hGa51, he52⟩)
        · have c32 : K (a + 2) = 4 + 2 := c32
          have c33 : K (a + 3) = 2 := c33
          have c34 : 0 ≤ V (a + 3) ∧ V (a + 3) ≤ 99 := c34
          have hA38 : mt_A I35 te (a + 4) := hA38
          have hW54 := mt_W_t hW21 (mt_G_F hGa36)
          have hmc55 := mc_G hmc31 hGa36
          show yi_D zi_Ms d zi_m101 k (63, [(1, .inl (ld 1)), (0, .inr (.inr (some 82)))], [.inl (V (a + 3)), .inl (57 + (ld 1)), .inr (.inr (some 88))], (I35, L15, R, Y), 0, 0) _
          refine yi_D_is rfl (fun _ _ => ?_)
          generalize w57 : yi_u I35 88 ((57 + (ld 1)).toNat) (V (a + 3)) = I56
          have hW58 := mt_W_w (i := 7 + (ld 1).toNat) (I' := I56) (V (a + 3)) hW54 (fun _ => by rw [← w57, show ((57 + (ld 1)).toNat) = 50 + (7 + (ld 1).toNat) by omega, yi_u_eq]; first | done | omega) (fun p k hp => by rw [← w57, yi_u_ne _ _ (by omega)]) (mt_bd hW54 (by omega) _)
          have hf59 : I56 82 8 = 0 := by rw [← w57, yi_u_ne _ _ (by omega)]; exact hf37
          have hA60 : mt_A I56 te (a + 4) := ⟨by rw [← w57, yi_u_ne _ _ (by omega)]; exact hA38.1, hA38.2⟩
          have hmc61 := mc_w (I' := I56) hmc55 (fun p k hp => by rw [← w57, yi_u_ne _ _ (by omega)])
          refine yi_D_run 1 (65, [(1, .inl (ld 1)), (0, .inr (.inr (some 82)))], [.inr (.inr (some 82))], (I56, L15, R, Y), 0, 0) (fun _ => rfl) ?_
          refine yi_D_gr (v := some 88) rfl rfl rfl (ym_S_at hS (j := 5) rfl).1 (fun _ => ?_)
          refine yi_D_run 2 (71, [(1, .inl (ld 1)), (0, .inr (.inr (some 82)))], [.inl 51, .inr (.inr (some 88)), .inl 51, .inr (.inr (some 88))], (I56, L15, R, Y), 0, 0) (fun _ => rfl) ?_
          refine yi_D_il (v := ld 1) rfl rfl (show I56 88 51 = ld 1 from (hW58.2.2.2.1 1 (by omega)).trans (by repeat rw [sp_up_n _ _ (by omega)])) (fun _ _ => ?_)
          refine yi_D_run 1 (73, [(1, .inl (ld 1)), (0, .inr (.inr (some 82)))], [.inl 1, .inl (ld 1), .inl 51, .inr (.inr (some 88))], (I56, L15, R, Y), 0, 0) (fun _ => rfl) ?_
          refine yi_D_iadd rfl ((ld 1) + 1) (yi_wn (by omega) (by omega)) ?_
          refine yi_D_is rfl (fun _ _ => ?_)
          show yi_D zi_Ms d zi_m101 k (75, [(1, .inl (ld 1)), (0, .inr (.inr (some 82)))], [], ((yi_u I56 88 51 ((ld 1) + 1)), L15, R, Y), 0, 0) _
          generalize w63 : yi_u I56 88 51 ((ld 1) + 1) = I62
          have hb65 : ((0 ≤ (sp_up ((sp_up ld (7 + (ld 1).toNat) (V (a + 3)))) 1 (ld 1 + 1)) 0 ∧ (sp_up ((sp_up ld (7 + (ld 1).toNat) (V (a + 3)))) 1 (ld 1 + 1)) 0 ≤ 6) ∧ (0 ≤ (sp_up ((sp_up ld (7 + (ld 1).toNat) (V (a + 3)))) 1 (ld 1 + 1)) 1 ∧ (sp_up ((sp_up ld (7 + (ld 1).toNat) (V (a + 3)))) 1 (ld 1 + 1)) 1 ≤ 4) ∧ (0 ≤ (sp_up ((sp_up ld (7 + (ld 1).toNat) (V (a + 3)))) 1 (ld 1 + 1)) 2 ∧ (sp_up ((sp_up ld (7 + (ld 1).toNat) (V (a + 3)))) 1 (ld 1 + 1)) 2 ≤ 4) ∧ (0 ≤ (sp_up ((sp_up ld (7 + (ld 1).toNat) (V (a + 3)))) 1 (ld 1 + 1)) 3 ∧ (sp_up ((sp_up ld (7 + (ld 1).toNat) (V (a + 3)))) 1 (ld 1 + 1)) 3 ≤ 5) ∧ (0 ≤ (sp_up ((sp_up ld (7 + (ld 1).toNat) (V (a + 3)))) 1 (ld 1 + 1)) 4 ∧ (sp_up ((sp_up ld (7 + (ld 1).toNat) (V (a + 3)))) 1 (ld 1 + 1)) 4 ≤ 4) ∧ (0 ≤ (sp_up ((sp_up ld (7 + (ld 1).toNat) (V (a + 3)))) 1 (ld 1 + 1)) 5 ∧ (sp_up ((sp_up ld (7 + (ld 1).toNat) (V (a + 3)))) 1 (ld 1 + 1)) 5 ≤ 6)) := by
            rw [sp_up_e]
            repeat rw [sp_up_n _ _ (by omega)]
            omega
          have hW64 := mt_W_w (i := 1) (I' := I62) (ld 1 + 1) hW58 (fun _ => by rw [← w63, show 51 = 50 + (1) by omega, yi_u_eq]; first | done | omega) (fun p k hp => by rw [← w63, yi_u_ne _ _ (by omega)]) hb65
          have hf66 : I62 82 8 = 0 := by rw [← w63, yi_u_ne _ _ (by omega)]; exact hf59
          have hA67 : mt_A I62 te (a + 4) := ⟨by rw [← w63, yi_u_ne _ _ (by omega)]; exact hA60.1, hA60.2⟩
          have hmc68 := mc_w (I' := I62) hmc61 (fun p k hp => by rw [← w63, yi_u_ne _ _ (by omega)])
          refine yi_D_retv rfl ?_
          have hstep : sp_R K P V (2, a, 0, [], ld, nm, cs) (.inl (1, (a + 4), 0, [], (sp_up (sp_up ld (7 + (ld 1).toNat) (V (a + 3))) (1) (ld 1 + 1)), (sp_un nm (V (a + 1)) (ld 1)), cs)) := sp_R_1 (by
            show sp_line K P V a ld nm cs = _
            unfold sp_line; (repeat (first | rw [if_pos (by omega)] | rw [if_neg (by omega)])); unfold sp_person; (repeat (first | rw [if_pos (by omega)] | rw [if_neg (by omega)])))
          have hml2 : ml_S gg I62 ((sp_up (sp_up ld (7 + (ld 1).toNat) (V (a + 3))) (1) (ld 1 + 1))) cs := ml_A hml hmc68 (fun k hk => by rw [← w63, yi_u_ne _ _ (by omega), ← w57, yi_u_ne _ _ (by omega), hGa36 88 k (by omega), h8818 88 k (by omega)]) (fun j hj => by (repeat rw [sp_up_n _ _ (by omega)]))
          exact ⟨_, _, rfl, ⟨fun p k hp => by rw [← w63, yi_u_ne _ _ (by omega), ← w57, yi_u_ne _ _ (by omega), hGa36 p k (by omega), h8818 p k (by omega)], fun p k hp => by rw [hL30 p k (by omega)]⟩, Or.inl ⟨_, _, _, _, hstep, by omega, hf66, hA67, hW64, (by (repeat rw [sp_up_n _ _ (by omega)]); exact hd0), (fun x => by rw [← w63, yi_u_ne _ _ (by omega), ← w57, yi_u_ne _ _ (by omega), hGa36 88 56 (by omega), h8818 88 56 (by omega)]; exact h6 (by (repeat rw [sp_up_n _ _ (by omega)] at x); exact x)), hml2⟩⟩
        · have c39 : ¬ K (a + 2) = 4 + 2 := c39
          have hW69 := mt_W_t hW21 (mt_G_F hGa41)
          have hmc70 := mc_G hmc31 hGa41
          have hz71 : 0 < sp_f P (a + 2) 1 := mt_f_ne hW21 hA20.2 (by omega)
          have hn72 : 0 < I40 82 8 := by rw [he42]; exact hz71
          have hx73 : sp_R K P V (2, a, 0, [], ld, nm, cs) (.inr (sp_f P (a + 2) 1)) := sp_R_1 (by
            show sp_line K P V a ld nm cs = _
            first
            | (exfalso; omega)
            | (unfold sp_line; (repeat (first | rw [if_pos (by omega)] | rw [if_neg (by omega)])); unfold sp_person; (repeat (first | rw [if_pos (by omega)] | rw [if_neg (by omega)])); done))
          show yi_D zi_Ms d zi_m101 k (63, [(1, .inl (ld 1)), (0, .inr (.inr (some 82)))], [.inl z43, .inl (57 + (ld 1)), .inr (.inr (some 88))], (I40, L15, R, Y), 0, 0) _
          refine yi_D_is rfl (fun _ _ => ?_)
          generalize w75 : yi_u I40 88 ((57 + (ld 1)).toNat) z43 = I74
          have hW76 := mt_W_w (i := 7 + (ld 1).toNat) (I' := I74) (z43) hW69 (fun _ => by rw [← w75, show ((57 + (ld 1)).toNat) = 50 + (7 + (ld 1).toNat) by omega, yi_u_eq]; first | done | omega) (fun p k hp => by rw [← w75, yi_u_ne _ _ (by omega)]) (mt_bd hW69 (by omega) _)
          have hf77 : 0 < I74 82 8 := by rw [← w75, yi_u_ne _ _ (by omega)]; exact hn72
          have he78 : I74 82 8 = _ := (show I74 82 8 = I40 82 8 by rw [← w75, yi_u_ne _ _ (by omega)]).trans he42
          refine yi_D_run 1 (65, [(1, .inl (ld 1)), (0, .inr (.inr (some 82)))], [.inr (.inr (some 82))], (I74, L15, R, Y), 0, 0) (fun _ => rfl) ?_
          refine yi_D_gr (v := some 88) rfl rfl rfl (ym_S_at hS (j := 5) rfl).1 (fun _ => ?_)
          refine yi_D_run 2 (71, [(1, .inl (ld 1)), (0, .inr (.inr (some 82)))], [.inl 51, .inr (.inr (some 88)), .inl 51, .inr (.inr (some 88))], (I74, L15, R, Y), 0, 0) (fun _ => rfl) ?_
          refine yi_D_il (v := ld 1) rfl rfl (show I74 88 51 = ld 1 from (hW76.2.2.2.1 1 (by omega)).trans (by repeat rw [sp_up_n _ _ (by omega)])) (fun _ _ => ?_)
          refine yi_D_run 1 (73, [(1, .inl (ld 1)), (0, .inr (.inr (some 82)))], [.inl 1, .inl (ld 1), .inl 51, .inr (.inr (some 88))], (I74, L15, R, Y), 0, 0) (fun _ => rfl) ?_
          refine yi_D_iadd rfl ((ld 1) + 1) (yi_wn (by omega) (by omega)) ?_
          refine yi_D_is rfl (fun _ _ => ?_)
          show yi_D zi_Ms d zi_m101 k (75, [(1, .inl (ld 1)), (0, .inr (.inr (some 82)))], [], ((yi_u I74 88 51 ((ld 1) + 1)), L15, R, Y), 0, 0) _
          generalize w80 : yi_u I74 88 51 ((ld 1) + 1) = I79
          have hf81 : 0 < I79 82 8 := by rw [← w80, yi_u_ne _ _ (by omega)]; exact hf77
          have he82 : I79 82 8 = _ := (show I79 82 8 = I74 82 8 by rw [← w80, yi_u_ne _ _ (by omega)]).trans he78
          refine yi_D_retv rfl ?_
          exact ⟨_, _, rfl, ⟨fun p k hp => by rw [← w80, yi_u_ne _ _ (by omega), ← w75, yi_u_ne _ _ (by omega), hGa41 p k (by omega), h8818 p k (by omega)], fun p k hp => by rw [hL30 p k (by omega)]⟩, Or.inr ⟨_, hx73, hz71, he82⟩⟩
        · have c44 : K (a + 2) = 4 + 2 ∧ ¬ K (a + 3) = 2 := c44
          have hW83 := mt_W_t hW21 (mt_G_F hGa46)
          have hmc84 := mc_G hmc31 hGa46
          have hA85 : mt_A I14 te (a + 2) ∨ True := Or.inr trivial
          have hz86 : 0 < sp_f P (a + 3) 1 := mt_f_ne hW21 (mt_lt hW21.2.1 hA20.2 (by omega)) (by omega)
          have hn87 : 0 < I45 82 8 := by rw [he47]; exact hz86
          have hx88 : sp_R K P V (2, a, 0, [], ld, nm, cs) (.inr (sp_f P (a + 3) 1)) := sp_R_1 (by
            show sp_line K P V a ld nm cs = _
            first
            | (exfalso; omega)
            | (unfold sp_line; (repeat (first | rw [if_pos (by omega)] | rw [if_neg (by omega)])); unfold sp_person; (repeat (first | rw [if_pos (by omega)] | rw [if_neg (by omega)])); done))
          show yi_D zi_Ms d zi_m101 k (63, [(1, .inl (ld 1)), (0, .inr (.inr (some 82)))], [.inl z48, .inl (57 + (ld 1)), .inr (.inr (some 88))], (I45, L15, R, Y), 0, 0) _
          refine yi_D_is rfl (fun _ _ => ?_)
          generalize w90 : yi_u I45 88 ((57 + (ld 1)).toNat) z48 = I89
          have hW91 := mt_W_w (i := 7 + (ld 1).toNat) (I' := I89) (z48) hW83 (fun _ => by rw [← w90, show ((57 + (ld 1)).toNat) = 50 + (7 + (ld 1).toNat) by omega, yi_u_eq]; first | done | omega) (fun p k hp => by rw [← w90, yi_u_ne _ _ (by omega)]) (mt_bd hW83 (by omega) _)
          have hf92 : 0 < I89 82 8 := by rw [← w90, yi_u_ne _ _ (by omega)]; exact hn87
          have he93 : I89 82 8 = _ := (show I89 82 8 = I45 82 8 by rw [← w90, yi_u_ne _ _ (by omega)]).trans he47
          refine yi_D_run 1 (65, [(1, .inl (ld 1)), (0, .inr (.inr (some 82)))], [.inr (.inr (some 82))], (I89, L15, R, Y), 0, 0) (fun _ => rfl) ?_
          refine yi_D_gr (v := some 88) rfl rfl rfl (ym_S_at hS (j := 5) rfl).1 (fun _ => ?_)
          refine yi_D_run 2 (71, [(1, .inl (ld 1)), (0, .inr (.inr (some 82)))], [.inl 51, .inr (.inr (some 88)), .inl 51, .inr (.inr (some 88))], (I89, L15, R, Y), 0, 0) (fun _ => rfl) ?_
          refine yi_D_il (v := ld 1) rfl rfl (show I89 88 51 = ld 1 from (hW91.2.2.2.1 1 (by omega)).trans (by repeat rw [sp_up_n _ _ (by omega)])) (fun _ _ => ?_)
          refine yi_D_run 1 (73, [(1, .inl (ld 1)), (0, .inr (.inr (some 82)))], [.inl 1, .inl (ld 1), .inl 51, .inr (.inr (some 88))], (I89, L15, R, Y), 0, 0) (fun _ => rfl) ?_
          refine yi_D_iadd rfl ((ld 1) + 1) (yi_wn (by omega) (by omega)) ?_
          refine yi_D_is rfl (fun _ _ => ?_)
          show yi_D zi_Ms d zi_m101 k (75, [(1, .inl (ld 1)), (0, .inr (.inr (some 82)))], [], ((yi_u I89 88 51 ((ld 1) + 1)), L15, R, Y), 0, 0) _
          generalize w95 : yi_u I89 88 51 ((ld 1) + 1) = I94
          have hf96 : 0 < I94 82 8 := by rw [← w95, yi_u_ne _ _ (by omega)]; exact hf92
          have he97 : I94 82 8 = _ := (show I94 82 8 = I89 82 8 by rw [← w95, yi_u_ne _ _ (by omega)]).trans he93
          refine yi_D_retv rfl ?_
          exact ⟨_, _, rfl, ⟨fun p k hp => by rw [← w95, yi_u_ne _ _ (by omega), ← w90, yi_u_ne _ _ (by omega), hGa46 p k (by omega), h8818 p k (by omega)], fun p k hp => by rw [hL30 p k (by omega)]⟩, Or.inr ⟨_, hx88, hz86, he97⟩⟩
        · have c49 : K (a + 2) = 4 + 2 ∧ K (a + 3) = 2 ∧ (V (a + 3) < 0 ∨ 99 < V (a + 3)) := c49
          have hW98 := mt_W_t hW21 (mt_G_F hGa51)
          have hmc99 := mc_G hmc31 hGa51
          have hA100 : mt_A I14 te (a + 2) ∨ True := Or.inr trivial
          have hz101 : 0 < sp_f P (a + 3) 4 := mt_f_ne hW21 (mt_lt hW21.2.1 hA20.2 (by omega)) (by omega)
          have hn102 : 0 < I50 82 8 := by rw [he52]; exact hz101
          have hx103 : sp_R K P V (2, a, 0, [], ld, nm, cs) (.inr (sp_f P (a + 3) 4)) := sp_R_1 (by
            show sp_line K P V a ld nm cs = _
            first
            | (exfalso; omega)
            | (unfold sp_line; (repeat (first | rw [if_pos (by omega)] | rw [if_neg (by omega)])); unfold sp_person; (repeat (first | rw [if_pos (by omega)] | rw [if_neg (by omega)])); done))
          show yi_D zi_Ms d zi_m101 k (63, [(1, .inl (ld 1)), (0, .inr (.inr (some 82)))], [.inl z53, .inl (57 + (ld 1)), .inr (.inr (some 88))], (I50, L15, R, Y), 0, 0) _
          refine yi_D_is rfl (fun _ _ => ?_)
          generalize w105 : yi_u I50 88 ((57 + (ld 1)).toNat) z53 = I104
          have hW106 := mt_W_w (i := 7 + (ld 1).toNat) (I' := I104) (z53) hW98 (fun _ => by rw [← w105, show ((57 + (ld 1)).toNat) = 50 + (7 + (ld 1).toNat) by omega, yi_u_eq]; first | done | omega) (fun p k hp => by rw [← w105, yi_u_ne _ _ (by omega)]) (mt_bd hW98 (by omega) _)
          have hf107 : 0 < I104 82 8 := by rw [← w105, yi_u_ne _ _ (by omega)]; exact hn102
          have he108 : I104 82 8 = _ := (show I104 82 8 = I50 82 8 by rw [← w105, yi_u_ne _ _ (by omega)]).trans he52
          refine yi_D_run 1 (65, [(1, .inl (ld 1)), (0, .inr (.inr (some 82)))], [.inr (.inr (some 82))], (I104, L15, R, Y), 0, 0) (fun _ => rfl) ?_
          refine yi_D_gr (v := some 88) rfl rfl rfl (ym_S_at hS (j := 5) rfl).1 (fun _ => ?_)
          refine yi_D_run 2 (71, [(1, .inl (ld 1)), (0, .inr (.inr (some 82)))], [.inl 51, .inr (.inr (some 88)), .inl 51, .inr (.inr (some 88))], (I104, L15, R, Y), 0, 0) (fun _ => rfl) ?_
          refine yi_D_il (v := ld 1) rfl rfl (show I104 88 51 = ld 1 from (hW106.2.2.2.1 1 (by omega)).trans (by repeat rw [sp_up_n _ _ (by omega)])) (fun _ _ => ?_)
          refine yi_D_run 1 (73, [(1, .inl (ld 1)), (0, .inr (.inr (some 82)))], [.inl 1, .inl (ld 1), .inl 51, .inr (.inr (some 88))], (I104, L15, R, Y), 0, 0) (fun _ => rfl) ?_
          refine yi_D_iadd rfl ((ld 1) + 1) (yi_wn (by omega) (by omega)) ?_
          refine yi_D_is rfl (fun _ _ => ?_)
          show yi_D zi_Ms d zi_m101 k (75, [(1, .inl (ld 1)), (0, .inr (.inr (some 82)))], [], ((yi_u I104 88 51 ((ld 1) + 1)), L15, R, Y), 0, 0) _
          generalize w110 : yi_u I104 88 51 ((ld 1) + 1) = I109
          have hf111 : 0 < I109 82 8 := by rw [← w110, yi_u_ne _ _ (by omega)]; exact hf107
          have he112 : I109 82 8 = _ := (show I109 82 8 = I104 82 8 by rw [← w110, yi_u_ne _ _ (by omega)]).trans he108
          refine yi_D_retv rfl ?_
          exact ⟨_, _, rfl, ⟨fun p k hp => by rw [← w110, yi_u_ne _ _ (by omega), ← w105, yi_u_ne _ _ (by omega), hGa51 p k (by omega), h8818 p k (by omega)], fun p k hp => by rw [hL30 p k (by omega)]⟩, Or.inr ⟨_, hx103, hz101, he112⟩⟩
      · have hW113 := mt_W_t hW (mt_G_F hGa24)
        have hmc114 := mc_G hm hGa24
        have hz115 : 0 < sp_f P (a + 1) 1 := mt_f_ne hW (mt_lt hW.2.1 hA.2 (by omega)) (by omega)
        have hn116 : 0 < I23 82 8 := by rw [he25]; exact hz115
        have hx117 : sp_R K P V (2, a, 0, [], ld, nm, cs) (.inr (sp_f P (a + 1) 1)) := sp_R_1 (by
          show sp_line K P V a ld nm cs = _
          first
          | (exfalso; omega)
          | (unfold sp_line; (repeat (first | rw [if_pos (by omega)] | rw [if_neg (by omega)])); unfold sp_person; (repeat (first | rw [if_pos (by omega)] | rw [if_neg (by omega)])); done))
        show yi_D zi_Ms d zi_m101 k (47, [(1, .inl (ld 1)), (0, .inr (.inr (some 82)))], [], (I23, L, R, Y), 0, 0) _
        refine yi_D_run 1 (48, [(1, .inl (ld 1)), (0, .inr (.inr (some 82)))], [.inr (.inr (some 82))], (I23, L, R, Y), 0, 0) (fun _ => rfl) ?_
        refine yi_D_gr (v := some 88) rfl rfl rfl (ym_S_at hS (j := 5) rfl).1 (fun _ => ?_)
        refine yi_D_run 2 (54, [(1, .inl (ld 1)), (0, .inr (.inr (some 82)))], [.inl (ld 1), .inl 57, .inr (.inr (some 88))], (I23, L, R, Y), 0, 0) (fun _ => rfl) ?_
        refine yi_D_iadd rfl (57 + (ld 1)) (yi_wn (by omega) (by omega)) ?_
        refine yi_D_run 4 (60, [(1, .inl (ld 1)), (0, .inr (.inr (some 82)))], [.inl 99, .inl 0, .inl 2, .inr (.inr (some 82)), .inl (57 + (ld 1)), .inr (.inr (some 88))], (I23, L, R, Y), 0, 0) (fun _ => rfl) ?_
        refine yi_D_callv rfl (q_takeAfter_f hW113 hn116) ?_
        rintro _ ⟨z121, I118, rfl, hGa119, hq120⟩
        have hW122 := mt_W_t hW113 (mt_G_F hGa119)
        have hmc123 := mc_G hmc114 hGa119
        have hf124 : 0 < I118 82 8 := by rw [hq120]; exact hn116
        have he125 := hq120.trans he25
        show yi_D zi_Ms d zi_m101 k (63, [(1, .inl (ld 1)), (0, .inr (.inr (some 82)))], [.inl z121, .inl (57 + (ld 1)), .inr (.inr (some 88))], (I118, L, R, Y), 0, 0) _
        refine yi_D_is rfl (fun _ _ => ?_)
        generalize w127 : yi_u I118 88 ((57 + (ld 1)).toNat) z121 = I126
        have hW128 := mt_W_w (i := 7 + (ld 1).toNat) (I' := I126) (z121) hW122 (fun _ => by rw [← w127, show ((57 + (ld 1)).toNat) = 50 + (7 + (ld 1).toNat) by omega, yi_u_eq]; first | done | omega) (fun p k hp => by rw [← w127, yi_u_ne _ _ (by omega)]) (mt_bd hW122 (by omega) _)
        have hf129 : 0 < I126 82 8 := by rw [← w127, yi_u_ne _ _ (by omega)]; exact hf124
        have he130 : I126 82 8 = _ := (show I126 82 8 = I118 82 8 by rw [← w127, yi_u_ne _ _ (by omega)]).trans he125
        refine yi_D_run 1 (65, [(1, .inl (ld 1)), (0, .inr (.inr (some 82)))], [.inr (.inr (some 82))], (I126, L, R, Y), 0, 0) (fun _ => rfl) ?_
        refine yi_D_gr (v := some 88) rfl rfl rfl (ym_S_at hS (j := 5) rfl).1 (fun _ => ?_)
        refine yi_D_run 2 (71, [(1, .inl (ld 1)), (0, .inr (.inr (some 82)))], [.inl 51, .inr (.inr (some 88)), .inl 51, .inr (.inr (some 88))], (I126, L, R, Y), 0, 0) (fun _ => rfl) ?_
        refine yi_D_il (v := ld 1) rfl rfl (show I126 88 51 = ld 1 from (hW128.2.2.2.1 1 (by omega)).trans (by repeat rw [sp_up_n _ _ (by omega)])) (fun _ _ => ?_)
        refine yi_D_run 1 (73, [(1, .inl (ld 1)), (0, .inr (.inr (some 82)))], [.inl 1, .inl (ld 1), .inl 51, .inr (.inr (some 88))], (I126, L, R, Y), 0, 0) (fun _ => rfl) ?_
        refine yi_D_iadd rfl ((ld 1) + 1) (yi_wn (by omega) (by omega)) ?_
        refine yi_D_is rfl (fun _ _ => ?_)
        show yi_D zi_Ms d zi_m101 k (75, [(1, .inl (ld 1)), (0, .inr (.inr (some 82)))], [], ((yi_u I126 88 51 ((ld 1) + 1)), L, R, Y), 0, 0) _
        generalize w132 : yi_u I126 88 51 ((ld 1) + 1) = I131
        have hf133 : 0 < I131 82 8 := by rw [← w132, yi_u_ne _ _ (by omega)]; exact hf129
        have he134 : I131 82 8 = _ := (show I131 82 8 = I126 82 8 by rw [← w132, yi_u_ne _ _ (by omega)]).trans he130
        refine yi_D_retv rfl ?_
        exact ⟨_, _, rfl, ⟨fun p k hp => by rw [← w132, yi_u_ne _ _ (by omega), ← w127, yi_u_ne _ _ (by omega), hGa119 p k (by omega), hGa24 p k (by omega)], fun p k hp => rfl⟩, Or.inr ⟨_, hx117, hz115, he134⟩⟩
      · have hW135 := mt_W_t hW (mt_G_F hGa28)
        have hmc136 := mc_G hm hGa28
        have hz137 : 0 < sp_f P (a + 1) 3 := mt_f_ne hW (mt_lt hW.2.1 hA.2 (by omega)) (by omega)
        have hn138 : 0 < I27 82 8 := by rw [he29]; exact hz137
        have hx139 : sp_R K P V (2, a, 0, [], ld, nm, cs) (.inr (sp_f P (a + 1) 3)) := sp_R_1 (by
          show sp_line K P V a ld nm cs = _
          first
          | (exfalso; omega)
          | (unfold sp_line; (repeat (first | rw [if_pos (by omega)] | rw [if_neg (by omega)])); unfold sp_person; (repeat (first | rw [if_pos (by omega)] | rw [if_neg (by omega)])); done))
        show yi_D zi_Ms d zi_m101 k (47, [(1, .inl (ld 1)), (0, .inr (.inr (some 82)))], [], (I27, L, R, Y), 0, 0) _
        refine yi_D_run 1 (48, [(1, .inl (ld 1)), (0, .inr (.inr (some 82)))], [.inr (.inr (some 82))], (I27, L, R, Y), 0, 0) (fun _ => rfl) ?_
        refine yi_D_gr (v := some 88) rfl rfl rfl (ym_S_at hS (j := 5) rfl).1 (fun _ => ?_)
        refine yi_D_run 2 (54, [(1, .inl (ld 1)), (0, .inr (.inr (some 82)))], [.inl (ld 1), .inl 57, .inr (.inr (some 88))], (I27, L, R, Y), 0, 0) (fun _ => rfl) ?_
        refine yi_D_iadd rfl (57 + (ld 1)) (yi_wn (by omega) (by omega)) ?_
        refine yi_D_run 4 (60, [(1, .inl (ld 1)), (0, .inr (.inr (some 82)))], [.inl 99, .inl 0, .inl 2, .inr (.inr (some 82)), .inl (57 + (ld 1)), .inr (.inr (some 88))], (I27, L, R, Y), 0, 0) (fun _ => rfl) ?_
        refine yi_D_callv rfl (q_takeAfter_f hW135 hn138) ?_
        rintro _ ⟨z143, I140, rfl, hGa141, hq142⟩
        have hW144 := mt_W_t hW135 (mt_G_F hGa141)
        have hmc145 := mc_G hmc136 hGa141
        have hf146 : 0 < I140 82 8 := by rw [hq142]; exact hn138
        have he147 := hq142.trans he29
        show yi_D zi_Ms d zi_m101 k (63, [(1, .inl (ld 1)), (0, .inr (.inr (some 82)))], [.inl z143, .inl (57 + (ld 1)), .inr (.inr (some 88))], (I140, L, R, Y), 0, 0) _
        refine yi_D_is rfl (fun _ _ => ?_)
        generalize w149 : yi_u I140 88 ((57 + (ld 1)).toNat) z143 = I148
        have hW150 := mt_W_w (i := 7 + (ld 1).toNat) (I' := I148) (z143) hW144 (fun _ => by rw [← w149, show ((57 + (ld 1)).toNat) = 50 + (7 + (ld 1).toNat) by omega, yi_u_eq]; first | done | omega) (fun p k hp => by rw [← w149, yi_u_ne _ _ (by omega)]) (mt_bd hW144 (by omega) _)
        have hf151 : 0 < I148 82 8 := by rw [← w149, yi_u_ne _ _ (by omega)]; exact hf146
        have he152 : I148 82 8 = _ := (show I148 82 8 = I140 82 8 by rw [← w149, yi_u_ne _ _ (by omega)]).trans he147
        refine yi_D_run 1 (65, [(1, .inl (ld 1)), (0, .inr (.inr (some 82)))], [.inr (.inr (some 82))], (I148, L, R, Y), 0, 0) (fun _ => rfl) ?_
        refine yi_D_gr (v := some 88) rfl rfl rfl (ym_S_at hS (j := 5) rfl).1 (fun _ => ?_)
        refine yi_D_run 2 (71, [(1, .inl (ld 1)), (0, .inr (.inr (some 82)))], [.inl 51, .inr (.inr (some 88)), .inl 51, .inr (.inr (some 88))], (I148, L, R, Y), 0, 0) (fun _ => rfl) ?_
        refine yi_D_il (v := ld 1) rfl rfl (show I148 88 51 = ld 1 from (hW150.2.2.2.1 1 (by omega)).trans (by repeat rw [sp_up_n _ _ (by omega)])) (fun _ _ => ?_)
        refine yi_D_run 1 (73, [(1, .inl (ld 1)), (0, .inr (.inr (some 82)))], [.inl 1, .inl (ld 1), .inl 51, .inr (.inr (some 88))], (I148, L, R, Y), 0, 0) (fun _ => rfl) ?_
        refine yi_D_iadd rfl ((ld 1) + 1) (yi_wn (by omega) (by omega)) ?_
        refine yi_D_is rfl (fun _ _ => ?_)
        show yi_D zi_Ms d zi_m101 k (75, [(1, .inl (ld 1)), (0, .inr (.inr (some 82)))], [], ((yi_u I148 88 51 ((ld 1) + 1)), L, R, Y), 0, 0) _
        generalize w154 : yi_u I148 88 51 ((ld 1) + 1) = I153
        have hf155 : 0 < I153 82 8 := by rw [← w154, yi_u_ne _ _ (by omega)]; exact hf151
        have he156 : I153 82 8 = _ := (show I153 82 8 = I148 82 8 by rw [← w154, yi_u_ne _ _ (by omega)]).trans he152
        refine yi_D_retv rfl ?_
        exact ⟨_, _, rfl, ⟨fun p k hp => by rw [← w154, yi_u_ne _ _ (by omega), ← w149, yi_u_ne _ _ (by omega), hGa141 p k (by omega), hGa28 p k (by omega)], fun p k hp => rfl⟩, Or.inr ⟨_, hx139, hz137, he156⟩⟩
    · refine yi_D_if1 false rfl (yi_ge_f h13) ?_
      refine yi_D_run 2 (38, [(1, .inl (ld 1)), (0, .inr (.inr (some 82)))], [.inl 5, .inr (.inr (some 82))], (I, L, R, Y), 0, 0) (fun _ => rfl) ?_
      refine yi_D_callv rfl (q_wrong_z ⟨by omega, by omega⟩ hW hf hA) ?_
      rintro _ ⟨I157, rfl, hg158, he159⟩
      have hGw160 : mt_G I I157 := fun p k hp => hg158 p k (by omega)
      have hW161 := mt_W_t hW (mt_G_F hGw160)
      have hmc162 := mc_G hm hGw160
      have hz163 : 0 < sp_f P a 5 := mt_f_ne hW hA.2 (by omega)
      have hn164 : 0 < I157 82 8 := by rw [he159]; exact hz163
      have hx165 : sp_R K P V (2, a, 0, [], ld, nm, cs) (.inr (sp_f P a 5)) := sp_R_1 (by
        show sp_line K P V a ld nm cs = _
        first
        | (exfalso; omega)
        | (unfold sp_line; (repeat (first | rw [if_pos (by omega)] | rw [if_neg (by omega)])); unfold sp_person; (repeat (first | rw [if_pos (by omega)] | rw [if_neg (by omega)])); done))
      show yi_D zi_Ms d zi_m101 k (41, [(1, .inl (ld 1)), (0, .inr (.inr (some 82)))], [], (I157, L, R, Y), 0, 0) _
      refine yi_D_retv rfl ?_
      exact ⟨_, _, rfl, ⟨fun p k hp => by rw [hGw160 p k (by omega)], fun p k hp => rfl⟩, Or.inr ⟨_, hx165, hz163, he159⟩⟩
theorem q_readEventC {d : Nat} {I L : Nat → Nat → Int} {R : Nat → Nat → Option Nat} {Y : (Nat → Nat) × (Nat → Nat) × Nat} {K P V : Nat → Int} {te a : Nat} {ld : Nat → Int} {nm : Int → Int} (hW : mt_W I L R Y K P V te 50 ld nm) (hf : I 82 8 = 0) (hA : mt_A I te a) (cs : List (Int × Int)) (hd0 : 1 ≤ ld 0) (h6 : ld 6 < 0 → I 88 56 < 0) {gg : Nat → Int × Int} (hml : ml_S gg I ld cs) (hk : K a = 7) : yi_P zi_Ms d 95 [.inr (.inr (some 82))] (I, L, R, Y) (mt_QLC gg I L R Y K P V te (2, a, 0, [], ld, nm, cs) a) := by
  refine yi_P_of (M := zi_m95) rfl (fun d k => ?_)
  have hS := hW.1
  have ht := hW.2.1.1
  have ha := hA.2
  have hp := hW.2.1.2.1 a hA.2
  have hbd := hW.2.2.2.2.2.2.1
  have hc3 : I 88 56 < 0 → ld 6 < 0 := hW.2.2.2.2.1
  have hm := hml.1
  show yi_D zi_Ms d zi_m95 k (0, [(0, .inr (.inr (some 82)))], [], (I, L, R, Y), 0, 0) _
  refine yi_D_run 1 (1, [(0, .inr (.inr (some 82)))], [.inr (.inr (some 82))], (I, L, R, Y), 0, 0) (fun _ => rfl) ?_
  refine yi_D_gr (v := some 88) rfl rfl rfl (ym_S_at hS (j := 5) rfl).1 (fun _ => ?_)
  refine yi_D_run 1 (6, [(0, .inr (.inr (some 82)))], [.inl 52, .inr (.inr (some 88))], (I, L, R, Y), 0, 0) (fun _ => rfl) ?_
  refine yi_D_il (v := ld 2) rfl rfl (show I 88 52 = ld 2 from hW.2.2.2.1 2 (by omega)) (fun _ _ => ?_)
  refine yi_D_run 3 (10, [(1, .inl (ld 2)), (0, .inr (.inr (some 82)))], [.inl 4, .inl (ld 2)], (I, L, R, Y), 0, 0) (fun _ => rfl) ?_
  by_cases h1 : (ld 2) = 4
  · refine yi_D_if2 true rfl (yi_eq_t h1) ?_
    refine yi_D_run 2 (38, [(1, .inl (ld 2)), (0, .inr (.inr (some 82)))], [.inl 5, .inr (.inr (some 82))], (I, L, R, Y), 0, 0) (fun _ => rfl) ?_
    refine yi_D_callv rfl (q_wrong_z ⟨by omega, by omega⟩ hW hf hA) ?_
    rintro _ ⟨I2, rfl, hg3, he4⟩
    have hGw5 : mt_G I I2 := fun p k hp => hg3 p k (by omega)
    have hW6 := mt_W_t hW (mt_G_F hGw5)
    have hmc7 := mc_G hm hGw5
    have hz8 : 0 < sp_f P a 5 := mt_f_ne hW hA.2 (by omega)
    have hn9 : 0 < I2 82 8 := by rw [he4]; exact hz8
    have hx10 : sp_R K P V (2, a, 0, [], ld, nm, cs) (.inr (sp_f P a 5)) := sp_R_1 (by
      show sp_line K P V a ld nm cs = _
      first
      | (exfalso; omega)
      | (unfold sp_line; (repeat (first | rw [if_pos (by omega)] | rw [if_neg (by omega)])); unfold sp_event; (repeat (first | rw [if_pos (by omega)] | rw [if_neg (by omega)])); done))
    show yi_D zi_Ms d zi_m95 k (41, [(1, .inl (ld 2)), (0, .inr (.inr (some 82)))], [], (I2, L, R, Y), 0, 0) _
    refine yi_D_retv rfl ?_
    exact ⟨_, _, rfl, ⟨fun p k hp => by rw [hGw5 p k (by omega)], fun p k hp => rfl⟩, Or.inr ⟨_, hx10, hz8, he4⟩⟩
  · refine yi_D_if2 false rfl (yi_eq_f h1) ?_
    refine yi_D_run 1 (14, [(1, .inl (ld 2)), (0, .inr (.inr (some 82)))], [.inr (.inr (some 82))], (I, L, R, Y), 0, 0) (fun _ => rfl) ?_
    refine yi_D_gr (v := some 88) rfl rfl rfl (ym_S_at hS (j := 5) rfl).1 (fun _ => ?_)
    refine yi_D_run 1 (19, [(1, .inl (ld 2)), (0, .inr (.inr (some 82)))], [.inl 50, .inr (.inr (some 88))], (I, L, R, Y), 0, 0) (fun _ => rfl) ?_
    refine yi_D_il (v := ld 0) rfl rfl (show I 88 50 = ld 0 from hW.2.2.2.1 0 (by omega)) (fun _ _ => ?_)
    refine yi_D_run 1 (21, [(1, .inl (ld 2)), (0, .inr (.inr (some 82)))], [.inr (.inr (some 82)), .inl (ld 0)], (I, L, R, Y), 0, 0) (fun _ => rfl) ?_
    refine yi_D_gr (v := some 88) rfl rfl rfl (ym_S_at hS (j := 5) rfl).1 (fun _ => ?_)
    refine yi_D_run 1 (26, [(1, .inl (ld 2)), (0, .inr (.inr (some 82)))], [.inl 51, .inr (.inr (some 88)), .inl (ld 0)], (I, L, R, Y), 0, 0) (fun _ => rfl) ?_
    refine yi_D_il (v := ld 1) rfl rfl (show I 88 51 = ld 1 from hW.2.2.2.1 1 (by omega)) (fun _ _ => ?_)
    refine yi_D_run 2 (29, [(1, .inl (ld 2)), (0, .inr (.inr (some 82)))], [.inl 1, .inl (ld 2), .inl (ld 1), .inl (ld 0)], (I, L, R, Y), 0, 0) (fun _ => rfl) ?_
    refine yi_D_iadd rfl ((ld 2) + 1) (yi_wn (by omega) (by omega)) ?_
    refine yi_D_calls rfl (q_futuresOf (by omega) (by omega) (by omega)) ?_
    rintro _ ⟨z11, rfl, hz12⟩
    show yi_D zi_Ms d zi_m95 k (33, [(1, .inl (ld 2)), (0, .inr (.inr (some 82)))], [.inl z11], (I, L, R, Y), 0, 0) _
    by_cases h13 : 0 ≤ z11
    · refine yi_D_if1 true rfl (yi_ge_t h13) ?_
      refine yi_D_run 3 (45, [(1, .inl (ld 2)), (0, .inr (.inr (some 82)))], [.inl (ld 2), .inl 4, .inr (.inr (some 82))], (I, L, R, Y), 0, 0) (fun _ => rfl) ?_
      refine yi_D_iadd rfl (4 + (ld 2)) (yi_wn (by omega) (by omega)) ?_
      refine yi_D_callv rfl (q_readNameC ⟨by omega, by omega⟩ hW hf hA (by omega)) ?_
      rintro _ (⟨c16, c17, I14, L15, rfl, h8818, hL30, hf19, hA20, hW21⟩ | ⟨c22, I23, rfl, hGa24, he25⟩ | ⟨c26, I27, rfl, hGa28, he29⟩)
      · have hmc31 := mc_o hm (fun p k h => h8818 p k (by omega))
        show yi_D zi_Ms d zi_m95 k (49, [(1, .inl (ld 2)), (0, .inr (.inr (some 82)))], [], (I14, L15, R, Y), 0, 0) _
        refine yi_D_run 1 (50, [(1, .inl (ld 2)), (0, .inr (.inr (some 82)))], [.inr (.inr (some 82))], (I14, L15, R, Y), 0, 0) (fun _ => rfl) ?_
        refine yi_D_gr (v := some 88) rfl rfl rfl (ym_S_at hS (j := 5) rfl).1 (fun _ => ?_)
        refine yi_D_run 2 (56, [(1, .inl (ld 2)), (0, .inr (.inr (some 82)))], [.inl 52, .inr (.inr (some 88)), .inl 52, .inr (.inr (some 88))], (I14, L15, R, Y), 0, 0) (fun _ => rfl) ?_
        have r32 : I14 88 52 = ld 2 := by rw [h8818 88 52 (by omega), (show I 88 52 = ld 2 from hW.2.2.2.1 2 (by omega))]
        refine yi_D_il (v := ld 2) rfl rfl r32 (fun _ _ => ?_)
        refine yi_D_run 1 (58, [(1, .inl (ld 2)), (0, .inr (.inr (some 82)))], [.inl 1, .inl (ld 2), .inl 52, .inr (.inr (some 88))], (I14, L15, R, Y), 0, 0) (fun _ => rfl) ?_
        refine yi_D_iadd rfl ((ld 2) + 1) (yi_wn (by omega) (by omega)) ?_
        refine yi_D_is rfl (fun _ _ => ?_)
        show yi_D zi_Ms d zi_m95 k (60, [(1, .inl (ld 2)), (0, .inr (.inr (some 82)))], [], ((yi_u I14 88 52 ((ld 2) + 1)), L15, R, Y), 0, 0) _
        generalize w34 : yi_u I14 88 52 ((ld 2) + 1) = I33
        have hb36 : ((0 ≤ (sp_up (ld) 2 (ld 2 + 1)) 0 ∧ (sp_up (ld) 2 (ld 2 + 1)) 0 ≤ 6) ∧ (0 ≤ (sp_up (ld) 2 (ld 2 + 1)) 1 ∧ (sp_up (ld) 2 (ld 2 + 1)) 1 ≤ 4) ∧ (0 ≤ (sp_up (ld) 2 (ld 2 + 1)) 2 ∧ (sp_up (ld) 2 (ld 2 + 1)) 2 ≤ 4) ∧ (0 ≤ (sp_up (ld) 2 (ld 2 + 1)) 3 ∧ (sp_up (ld) 2 (ld 2 + 1)) 3 ≤ 5) ∧ (0 ≤ (sp_up (ld) 2 (ld 2 + 1)) 4 ∧ (sp_up (ld) 2 (ld 2 + 1)) 4 ≤ 4) ∧ (0 ≤ (sp_up (ld) 2 (ld 2 + 1)) 5 ∧ (sp_up (ld) 2 (ld 2 + 1)) 5 ≤ 6)) := by
          rw [sp_up_e]
          repeat rw [sp_up_n _ _ (by omega)]
          omega
        have hW35 := mt_W_w (i := 2) (I' := I33) (ld 2 + 1) hW21 (fun _ => by rw [← w34, show 52 = 50 + (2) by omega, yi_u_eq]; first | done | omega) (fun p k hp => by rw [← w34, yi_u_ne _ _ (by omega)]) hb36
        have hf37 : I33 82 8 = 0 := by rw [← w34, yi_u_ne _ _ (by omega)]; exact hf19
        have hA38 : mt_A I33 te (a + 2) := ⟨by rw [← w34, yi_u_ne _ _ (by omega)]; exact hA20.1, hA20.2⟩
        have hmc39 := mc_w (I' := I33) hmc31 (fun p k hp => by rw [← w34, yi_u_ne _ _ (by omega)])
        refine yi_D_retv rfl ?_
        have hstep : sp_R K P V (2, a, 0, [], ld, nm, cs) (.inl (1, (a + 2), 0, [], (sp_up ld (2) (ld 2 + 1)), (sp_un nm (V (a + 1)) (4 + (ld 2))), cs)) := sp_R_1 (by
          show sp_line K P V a ld nm cs = _
          unfold sp_line; (repeat (first | rw [if_pos (by omega)] | rw [if_neg (by omega)])); unfold sp_event; (repeat (first | rw [if_pos (by omega)] | rw [if_neg (by omega)])))
        have hml2 : ml_S gg I33 ((sp_up ld (2) (ld 2 + 1))) cs := ml_A hml hmc39 (fun k hk => by rw [← w34, yi_u_ne _ _ (by omega), h8818 88 k (by omega)]) (fun j hj => by (repeat rw [sp_up_n _ _ (by omega)]))
        exact ⟨_, _, rfl, ⟨fun p k hp => by rw [← w34, yi_u_ne _ _ (by omega), h8818 p k (by omega)], fun p k hp => by rw [hL30 p k (by omega)]⟩, Or.inl ⟨_, _, _, _, hstep, by omega, hf37, hA38, hW35, (by (repeat rw [sp_up_n _ _ (by omega)]); exact hd0), (fun x => by rw [← w34, yi_u_ne _ _ (by omega), h8818 88 56 (by omega)]; exact h6 (by (repeat rw [sp_up_n _ _ (by omega)] at x); exact x)), hml2⟩⟩
      · have hW40 := mt_W_t hW (mt_G_F hGa24)
        have hmc41 := mc_G hm hGa24
        have hz42 : 0 < sp_f P (a + 1) 1 := mt_f_ne hW (mt_lt hW.2.1 hA.2 (by omega)) (by omega)
        have hn43 : 0 < I23 82 8 := by rw [he25]; exact hz42
        have hx44 : sp_R K P V (2, a, 0, [], ld, nm, cs) (.inr (sp_f P (a + 1) 1)) := sp_R_1 (by
          show sp_line K P V a ld nm cs = _
          first
          | (exfalso; omega)
          | (unfold sp_line; (repeat (first | rw [if_pos (by omega)] | rw [if_neg (by omega)])); unfold sp_event; (repeat (first | rw [if_pos (by omega)] | rw [if_neg (by omega)])); done))
        show yi_D zi_Ms d zi_m95 k (49, [(1, .inl (ld 2)), (0, .inr (.inr (some 82)))], [], (I23, L, R, Y), 0, 0) _
        refine yi_D_run 1 (50, [(1, .inl (ld 2)), (0, .inr (.inr (some 82)))], [.inr (.inr (some 82))], (I23, L, R, Y), 0, 0) (fun _ => rfl) ?_
        refine yi_D_gr (v := some 88) rfl rfl rfl (ym_S_at hS (j := 5) rfl).1 (fun _ => ?_)
        refine yi_D_run 2 (56, [(1, .inl (ld 2)), (0, .inr (.inr (some 82)))], [.inl 52, .inr (.inr (some 88)), .inl 52, .inr (.inr (some 88))], (I23, L, R, Y), 0, 0) (fun _ => rfl) ?_
        have r45 : I23 88 52 = ld 2 := by rw [hGa24 88 52 (by omega), (show I 88 52 = ld 2 from hW.2.2.2.1 2 (by omega))]
        refine yi_D_il (v := ld 2) rfl rfl r45 (fun _ _ => ?_)
        refine yi_D_run 1 (58, [(1, .inl (ld 2)), (0, .inr (.inr (some 82)))], [.inl 1, .inl (ld 2), .inl 52, .inr (.inr (some 88))], (I23, L, R, Y), 0, 0) (fun _ => rfl) ?_
        refine yi_D_iadd rfl ((ld 2) + 1) (yi_wn (by omega) (by omega)) ?_
        refine yi_D_is rfl (fun _ _ => ?_)
        show yi_D zi_Ms d zi_m95 k (60, [(1, .inl (ld 2)), (0, .inr (.inr (some 82)))], [], ((yi_u I23 88 52 ((ld 2) + 1)), L, R, Y), 0, 0) _
        generalize w47 : yi_u I23 88 52 ((ld 2) + 1) = I46
        have hf48 : 0 < I46 82 8 := by rw [← w47, yi_u_ne _ _ (by omega)]; exact hn43
        have he49 : I46 82 8 = _ := (show I46 82 8 = I23 82 8 by rw [← w47, yi_u_ne _ _ (by omega)]).trans he25
        refine yi_D_retv rfl ?_
        exact ⟨_, _, rfl, ⟨fun p k hp => by rw [← w47, yi_u_ne _ _ (by omega), hGa24 p k (by omega)], fun p k hp => rfl⟩, Or.inr ⟨_, hx44, hz42, he49⟩⟩
      · have hW50 := mt_W_t hW (mt_G_F hGa28)
        have hmc51 := mc_G hm hGa28
        have hz52 : 0 < sp_f P (a + 1) 3 := mt_f_ne hW (mt_lt hW.2.1 hA.2 (by omega)) (by omega)
        have hn53 : 0 < I27 82 8 := by rw [he29]; exact hz52
        have hx54 : sp_R K P V (2, a, 0, [], ld, nm, cs) (.inr (sp_f P (a + 1) 3)) := sp_R_1 (by
          show sp_line K P V a ld nm cs = _
          first
          | (exfalso; omega)
          | (unfold sp_line; (repeat (first | rw [if_pos (by omega)] | rw [if_neg (by omega)])); unfold sp_event; (repeat (first | rw [if_pos (by omega)] | rw [if_neg (by omega)])); done))
        show yi_D zi_Ms d zi_m95 k (49, [(1, .inl (ld 2)), (0, .inr (.inr (some 82)))], [], (I27, L, R, Y), 0, 0) _
        refine yi_D_run 1 (50, [(1, .inl (ld 2)), (0, .inr (.inr (some 82)))], [.inr (.inr (some 82))], (I27, L, R, Y), 0, 0) (fun _ => rfl) ?_
        refine yi_D_gr (v := some 88) rfl rfl rfl (ym_S_at hS (j := 5) rfl).1 (fun _ => ?_)
        refine yi_D_run 2 (56, [(1, .inl (ld 2)), (0, .inr (.inr (some 82)))], [.inl 52, .inr (.inr (some 88)), .inl 52, .inr (.inr (some 88))], (I27, L, R, Y), 0, 0) (fun _ => rfl) ?_
        have r55 : I27 88 52 = ld 2 := by rw [hGa28 88 52 (by omega), (show I 88 52 = ld 2 from hW.2.2.2.1 2 (by omega))]
        refine yi_D_il (v := ld 2) rfl rfl r55 (fun _ _ => ?_)
        refine yi_D_run 1 (58, [(1, .inl (ld 2)), (0, .inr (.inr (some 82)))], [.inl 1, .inl (ld 2), .inl 52, .inr (.inr (some 88))], (I27, L, R, Y), 0, 0) (fun _ => rfl) ?_
        refine yi_D_iadd rfl ((ld 2) + 1) (yi_wn (by omega) (by omega)) ?_
        refine yi_D_is rfl (fun _ _ => ?_)
        show yi_D zi_Ms d zi_m95 k (60, [(1, .inl (ld 2)), (0, .inr (.inr (some 82)))], [], ((yi_u I27 88 52 ((ld 2) + 1)), L, R, Y), 0, 0) _
        generalize w57 : yi_u I27 88 52 ((ld 2) + 1) = I56
        have hf58 : 0 < I56 82 8 := by rw [← w57, yi_u_ne _ _ (by omega)]; exact hn53
        have he59 : I56 82 8 = _ := (show I56 82 8 = I27 82 8 by rw [← w57, yi_u_ne _ _ (by omega)]).trans he29
        refine yi_D_retv rfl ?_
        exact ⟨_, _, rfl, ⟨fun p k hp => by rw [← w57, yi_u_ne _ _ (by omega), hGa28 p k (by omega)], fun p k hp => rfl⟩, Or.inr ⟨_, hx54, hz52, he59⟩⟩
    · refine yi_D_if1 false rfl (yi_ge_f h13) ?_
      refine yi_D_run 2 (38, [(1, .inl (ld 2)), (0, .inr (.inr (some 82)))], [.inl 5, .inr (.inr (some 82))], (I, L, R, Y), 0, 0) (fun _ => rfl) ?_
      refine yi_D_callv rfl (q_wrong_z ⟨by omega, by omega⟩ hW hf hA) ?_
      rintro _ ⟨I60, rfl, hg61, he62⟩
      have hGw63 : mt_G I I60 := fun p k hp => hg61 p k (by omega)
      have hW64 := mt_W_t hW (mt_G_F hGw63)
      have hmc65 := mc_G hm hGw63
      have hz66 : 0 < sp_f P a 5 := mt_f_ne hW hA.2 (by omega)
      have hn67 : 0 < I60 82 8 := by rw [he62]; exact hz66
      have hx68 : sp_R K P V (2, a, 0, [], ld, nm, cs) (.inr (sp_f P a 5)) := sp_R_1 (by
        show sp_line K P V a ld nm cs = _
        first
        | (exfalso; omega)
        | (unfold sp_line; (repeat (first | rw [if_pos (by omega)] | rw [if_neg (by omega)])); unfold sp_event; (repeat (first | rw [if_pos (by omega)] | rw [if_neg (by omega)])); done))
      show yi_D zi_Ms d zi_m95 k (41, [(1, .inl (ld 2)), (0, .inr (.inr (some 82)))], [], (I60, L, R, Y), 0, 0) _
      refine yi_D_retv rfl ?_
      exact ⟨_, _, rfl, ⟨fun p k hp => by rw [hGw63 p k (by omega)], fun p k hp => rfl⟩, Or.inr ⟨_, hx68, hz66, he62⟩⟩
theorem q_readProphetC {d : Nat} {I L : Nat → Nat → Int} {R : Nat → Nat → Option Nat} {Y : (Nat → Nat) × (Nat → Nat) × Nat} {K P V : Nat → Int} {te a : Nat} {ld : Nat → Int} {nm : Int → Int} (hW : mt_W I L R Y K P V te 50 ld nm) (hf : I 82 8 = 0) (hA : mt_A I te a) (cs : List (Int × Int)) (hd0 : 1 ≤ ld 0) (h6 : ld 6 < 0 → I 88 56 < 0) {gg : Nat → Int × Int} (hml : ml_S gg I ld cs) (hk : K a = 8) : yi_P zi_Ms d 103 [.inr (.inr (some 82))] (I, L, R, Y) (mt_QLC gg I L R Y K P V te (2, a, 0, [], ld, nm, cs) a) := by
  refine yi_P_of (M := zi_m103) rfl (fun d k => ?_)
  have hS := hW.1
  have ht := hW.2.1.1
  have ha := hA.2
  have hp := hW.2.1.2.1 a hA.2
  have hbd := hW.2.2.2.2.2.2.1
  have hc3 : I 88 56 < 0 → ld 6 < 0 := hW.2.2.2.2.1
  have hm := hml.1
  show yi_D zi_Ms d zi_m103 k (0, [(0, .inr (.inr (some 82)))], [], (I, L, R, Y), 0, 0) _
  refine yi_D_run 1 (1, [(0, .inr (.inr (some 82)))], [.inr (.inr (some 82))], (I, L, R, Y), 0, 0) (fun _ => rfl) ?_
  refine yi_D_gr (v := some 88) rfl rfl rfl (ym_S_at hS (j := 5) rfl).1 (fun _ => ?_)
  refine yi_D_run 1 (6, [(0, .inr (.inr (some 82)))], [.inl 53, .inr (.inr (some 88))], (I, L, R, Y), 0, 0) (fun _ => rfl) ?_
  refine yi_D_il (v := ld 3) rfl rfl (show I 88 53 = ld 3 from hW.2.2.2.1 3 (by omega)) (fun _ _ => ?_)
  refine yi_D_run 3 (10, [(1, .inl (ld 3)), (0, .inr (.inr (some 82)))], [.inl 5, .inl (ld 3)], (I, L, R, Y), 0, 0) (fun _ => rfl) ?_
  by_cases h1 : (ld 3) = 5
  · refine yi_D_if2 false rfl (yi_ne_f h1) ?_
    refine yi_D_run 2 (15, [(1, .inl (ld 3)), (0, .inr (.inr (some 82)))], [.inl 5, .inr (.inr (some 82))], (I, L, R, Y), 0, 0) (fun _ => rfl) ?_
    refine yi_D_callv rfl (q_wrong_z ⟨by omega, by omega⟩ hW hf hA) ?_
    rintro _ ⟨I2, rfl, hg3, he4⟩
    have hGw5 : mt_G I I2 := fun p k hp => hg3 p k (by omega)
    have hW6 := mt_W_t hW (mt_G_F hGw5)
    have hmc7 := mc_G hm hGw5
    have hz8 : 0 < sp_f P a 5 := mt_f_ne hW hA.2 (by omega)
    have hn9 : 0 < I2 82 8 := by rw [he4]; exact hz8
    have hx10 : sp_R K P V (2, a, 0, [], ld, nm, cs) (.inr (sp_f P a 5)) := sp_R_1 (by
      show sp_line K P V a ld nm cs = _
      first
      | (exfalso; omega)
      | (unfold sp_line; (repeat (first | rw [if_pos (by omega)] | rw [if_neg (by omega)])); unfold sp_prophet; (repeat (first | rw [if_pos (by omega)] | rw [if_neg (by omega)])); done))
    show yi_D zi_Ms d zi_m103 k (18, [(1, .inl (ld 3)), (0, .inr (.inr (some 82)))], [], (I2, L, R, Y), 0, 0) _
    refine yi_D_retv rfl ?_
    exact ⟨_, _, rfl, ⟨fun p k hp => by rw [hGw5 p k (by omega)], fun p k hp => rfl⟩, Or.inr ⟨_, hx10, hz8, he4⟩⟩
  · refine yi_D_if2 true rfl (yi_ne_t h1) ?_
    refine yi_D_run 3 (23, [(1, .inl (ld 3)), (0, .inr (.inr (some 82)))], [.inl (ld 3), .inl 8, .inr (.inr (some 82))], (I, L, R, Y), 0, 0) (fun _ => rfl) ?_
    refine yi_D_iadd rfl (8 + (ld 3)) (yi_wn (by omega) (by omega)) ?_
    refine yi_D_callv rfl (q_readNameC ⟨by omega, by omega⟩ hW hf hA (by omega)) ?_
    rintro _ (⟨c13, c14, I11, L12, rfl, h8815, hL27, hf16, hA17, hW18⟩ | ⟨c19, I20, rfl, hGa21, he22⟩ | ⟨c23, I24, rfl, hGa25, he26⟩)
    · have hmc28 := mc_o hm (fun p k h => h8815 p k (by omega))
      show yi_D zi_Ms d zi_m103 k (27, [(1, .inl (ld 3)), (0, .inr (.inr (some 82)))], [], (I11, L12, R, Y), 0, 0) _
      refine yi_D_run 1 (28, [(1, .inl (ld 3)), (0, .inr (.inr (some 82)))], [.inr (.inr (some 82))], (I11, L12, R, Y), 0, 0) (fun _ => rfl) ?_
      refine yi_D_gi (v := 0) rfl rfl rfl hf16 (fun _ => ?_)
      refine yi_D_if1 true rfl (by decide) ?_
      refine yi_D_run 3 (42, [(1, .inl (ld 3)), (0, .inr (.inr (some 82)))], [.inl 5, .inl 21, .inr (.inr (some 82))], (I11, L12, R, Y), 0, 0) (fun _ => rfl) ?_
      refine yi_D_callv rfl (q_wordHere_z (by omega) (by omega) (by omega) hW18 hf16 hA17) ?_
      rintro _ ⟨z29, rfl, hz30⟩
      show yi_D zi_Ms d zi_m103 k (45, [(1, .inl (ld 3)), (0, .inr (.inr (some 82)))], [.inl z29], (I11, L12, R, Y), 0, 0) _
      refine yi_D_run 2 (47, [(2, .inl z29), (1, .inl (ld 3)), (0, .inr (.inr (some 82)))], [.inl z29], (I11, L12, R, Y), 0, 0) (fun _ => rfl) ?_
      by_cases h31 : 0 ≤ z29
      · refine yi_D_if1 true rfl (yi_ge_t h31) ?_
        refine yi_D_run 2 (58, [(2, .inl z29), (1, .inl (ld 3)), (0, .inr (.inr (some 82)))], [.inr (.inr (some 82)), .inr (.inr (some 82))], (I11, L12, R, Y), 0, 0) (fun _ => rfl) ?_
        refine yi_D_gi (v := ((a + 2 : Nat) : Int)) rfl rfl rfl hA17.1 (fun _ => ?_)
        refine yi_D_run 1 (62, [(2, .inl z29), (1, .inl (ld 3)), (0, .inr (.inr (some 82)))], [.inl 1, .inl ((a + 2 : Nat) : Int), .inr (.inr (some 82))], (I11, L12, R, Y), 0, 0) (fun _ => rfl) ?_
        refine yi_D_iadd rfl (((a + 2 : Nat) : Int) + 1) (yi_wn (by omega) (by omega)) ?_
        refine yi_D_pi rfl (fun _ => ?_)
        generalize w33 : yi_u I11 82 7 (((a + 2 : Nat) : Int) + 1) = I32
        have hGn34 : mt_G I11 I32 := fun p k hp => by rw [← w33, yi_u_ne _ _ (by omega)]
        have hW35 := mt_W_t hW18 (mt_G_F hGn34)
        have hmc36 := mc_G hmc28 hGn34
        have hf37 : I32 82 8 = 0 := by rw [← w33, yi_u_ne _ _ (by omega)]; exact hf16
        have hA38 : mt_A I32 te (a + 3) := ⟨by rw [← w33, yi_u_eq]; omega, mt_lt hW35.2.1 hA17.2 (by omega)⟩
        refine yi_D_run 1 (67, [(2, .inl z29), (1, .inl (ld 3)), (0, .inr (.inr (some 82)))], [.inr (.inr (some 82))], (I32, L12, R, Y), 0, 0) (fun _ => rfl) ?_
        refine yi_D_gr (v := some 88) rfl rfl rfl (ym_S_at hS (j := 5) rfl).1 (fun _ => ?_)
        refine yi_D_run 3 (74, [(2, .inl z29), (1, .inl (ld 3)), (0, .inr (.inr (some 82)))], [.inl (ld 3), .inl 2, .inl 61, .inr (.inr (some 88))], (I32, L12, R, Y), 0, 0) (fun _ => rfl) ?_
        refine yi_D_imul rfl (2 * (ld 3)) (yi_wn (by omega) (by omega)) ?_
        refine yi_D_iadd rfl (61 + (2 * (ld 3))) (yi_wn (by omega) (by omega)) ?_
        refine yi_D_run 1 (77, [(2, .inl z29), (1, .inl (ld 3)), (0, .inr (.inr (some 82)))], [.inl z29, .inl (61 + (2 * (ld 3))), .inr (.inr (some 88))], (I32, L12, R, Y), 0, 0) (fun _ => rfl) ?_
        have hkz : z29 = K (a + 2) - 25 := by omega
        refine yi_D_is rfl (fun _ _ => ?_)
        generalize w40 : yi_u I32 88 ((61 + (2 * (ld 3))).toNat) z29 = I39
        have hW41 := mt_W_w (i := 11 + 2 * (ld 3).toNat) (I' := I39) (K (a + 2) - 25) hW35 (fun _ => by rw [← w40, show ((61 + (2 * (ld 3))).toNat) = 50 + (11 + 2 * (ld 3).toNat) by omega, yi_u_eq]; first | done | omega) (fun p k hp => by rw [← w40, yi_u_ne _ _ (by omega)]) (mt_bd hW35 (by omega) _)
        have hf42 : I39 82 8 = 0 := by rw [← w40, yi_u_ne _ _ (by omega)]; exact hf37
        have hA43 : mt_A I39 te (a + 3) := ⟨by rw [← w40, yi_u_ne _ _ (by omega)]; exact hA38.1, hA38.2⟩
        have hmc44 := mc_w (I' := I39) hmc36 (fun p k hp => by rw [← w40, yi_u_ne _ _ (by omega)])
        refine yi_D_run 1 (79, [(2, .inl z29), (1, .inl (ld 3)), (0, .inr (.inr (some 82)))], [.inr (.inr (some 82))], (I39, L12, R, Y), 0, 0) (fun _ => rfl) ?_
        refine yi_D_gr (v := some 88) rfl rfl rfl (ym_S_at hS (j := 5) rfl).1 (fun _ => ?_)
        refine yi_D_run 3 (86, [(2, .inl z29), (1, .inl (ld 3)), (0, .inr (.inr (some 82)))], [.inl (ld 3), .inl 2, .inl 61, .inr (.inr (some 88))], (I39, L12, R, Y), 0, 0) (fun _ => rfl) ?_
        refine yi_D_imul rfl (2 * (ld 3)) (yi_wn (by omega) (by omega)) ?_
        refine yi_D_iadd rfl (61 + (2 * (ld 3))) (yi_wn (by omega) (by omega)) ?_
        refine yi_D_run 1 (89, [(2, .inl z29), (1, .inl (ld 3)), (0, .inr (.inr (some 82)))], [.inl 1, .inl (61 + (2 * (ld 3))), .inr (.inr (some 88))], (I39, L12, R, Y), 0, 0) (fun _ => rfl) ?_
        refine yi_D_iadd rfl ((61 + (2 * (ld 3))) + 1) (yi_wn (by omega) (by omega)) ?_
        refine yi_D_run 4 (96, [(2, .inl z29), (1, .inl (ld 3)), (0, .inr (.inr (some 82)))], [.inl 999, .inl 0, .inl 5, .inr (.inr (some 82)), .inl ((61 + (2 * (ld 3))) + 1), .inr (.inr (some 88))], (I39, L12, R, Y), 0, 0) (fun _ => rfl) ?_
        refine yi_D_callv rfl (q_takeAfter_z (lo := 0) (hi := 999) (by omega) (by omega) hW41 hf42 hA43) ?_
        rintro _ (⟨c45, c46, c47, I48, rfl, hGa49, hf50, hA51⟩ | ⟨c52, z56, I53, rfl, hGa54, he55⟩ | ⟨c57, z61, I58, rfl, hGa59, he60⟩ | ⟨c62, z66, I63, rfl, hGa64, he65⟩)
        · have c45 : K (a + 3) = 4 + 5 := c45
          have c46 : K (a + 4) = 2 := c46
          have c47 : 0 ≤ V (a + 4) ∧ V (a + 4) ≤ 999 := c47
          have hA51 : mt_A I48 te (a + 5) := hA51
          have hW67 := mt_W_t hW41 (mt_G_F hGa49)
          have hmc68 := mc_G hmc44 hGa49
          show yi_D zi_Ms d zi_m103 k (99, [(2, .inl z29), (1, .inl (ld 3)), (0, .inr (.inr (some 82)))], [.inl (V (a + 4)), .inl ((61 + (2 * (ld 3))) + 1), .inr (.inr (some 88))], (I48, L12, R, Y), 0, 0) _
          refine yi_D_is rfl (fun _ _ => ?_)
          generalize w70 : yi_u I48 88 (((61 + (2 * (ld 3))) + 1).toNat) (V (a + 4)) = I69
          have hW71 := mt_W_w (i := 12 + 2 * (ld 3).toNat) (I' := I69) (V (a + 4)) hW67 (fun _ => by rw [← w70, show (((61 + (2 * (ld 3))) + 1).toNat) = 50 + (12 + 2 * (ld 3).toNat) by omega, yi_u_eq]; first | done | omega) (fun p k hp => by rw [← w70, yi_u_ne _ _ (by omega)]) (mt_bd hW67 (by omega) _)
          have hf72 : I69 82 8 = 0 := by rw [← w70, yi_u_ne _ _ (by omega)]; exact hf50
          have hA73 : mt_A I69 te (a + 5) := ⟨by rw [← w70, yi_u_ne _ _ (by omega)]; exact hA51.1, hA51.2⟩
          have hmc74 := mc_w (I' := I69) hmc68 (fun p k hp => by rw [← w70, yi_u_ne _ _ (by omega)])
          refine yi_D_run 1 (101, [(2, .inl z29), (1, .inl (ld 3)), (0, .inr (.inr (some 82)))], [.inr (.inr (some 82))], (I69, L12, R, Y), 0, 0) (fun _ => rfl) ?_
          refine yi_D_gr (v := some 88) rfl rfl rfl (ym_S_at hS (j := 5) rfl).1 (fun _ => ?_)
          refine yi_D_run 2 (107, [(2, .inl z29), (1, .inl (ld 3)), (0, .inr (.inr (some 82)))], [.inl 53, .inr (.inr (some 88)), .inl 53, .inr (.inr (some 88))], (I69, L12, R, Y), 0, 0) (fun _ => rfl) ?_
          refine yi_D_il (v := ld 3) rfl rfl (show I69 88 53 = ld 3 from (hW71.2.2.2.1 3 (by omega)).trans (by repeat rw [sp_up_n _ _ (by omega)])) (fun _ _ => ?_)
          refine yi_D_run 1 (109, [(2, .inl z29), (1, .inl (ld 3)), (0, .inr (.inr (some 82)))], [.inl 1, .inl (ld 3), .inl 53, .inr (.inr (some 88))], (I69, L12, R, Y), 0, 0) (fun _ => rfl) ?_
          refine yi_D_iadd rfl ((ld 3) + 1) (yi_wn (by omega) (by omega)) ?_
          refine yi_D_is rfl (fun _ _ => ?_)
          show yi_D zi_Ms d zi_m103 k (111, [(2, .inl z29), (1, .inl (ld 3)), (0, .inr (.inr (some 82)))], [], ((yi_u I69 88 53 ((ld 3) + 1)), L12, R, Y), 0, 0) _
          generalize w76 : yi_u I69 88 53 ((ld 3) + 1) = I75
          have hb78 : ((0 ≤ (sp_up ((sp_up (sp_up ld (11 + 2 * (ld 3).toNat) (K (a + 2) - 25)) (12 + 2 * (ld 3).toNat) (V (a + 4)))) 3 (ld 3 + 1)) 0 ∧ (sp_up ((sp_up (sp_up ld (11 + 2 * (ld 3).toNat) (K (a + 2) - 25)) (12 + 2 * (ld 3).toNat) (V (a + 4)))) 3 (ld 3 + 1)) 0 ≤ 6) ∧ (0 ≤ (sp_up ((sp_up (sp_up ld (11 + 2 * (ld 3).toNat) (K (a + 2) - 25)) (12 + 2 * (ld 3).toNat) (V (a + 4)))) 3 (ld 3 + 1)) 1 ∧ (sp_up ((sp_up (sp_up ld (11 + 2 * (ld 3).toNat) (K (a + 2) - 25)) (12 + 2 * (ld 3).toNat) (V (a + 4)))) 3 (ld 3 + 1)) 1 ≤ 4) ∧ (0 ≤ (sp_up ((sp_up (sp_up ld (11 + 2 * (ld 3).toNat) (K (a + 2) - 25)) (12 + 2 * (ld 3).toNat) (V (a + 4)))) 3 (ld 3 + 1)) 2 ∧ (sp_up ((sp_up (sp_up ld (11 + 2 * (ld 3).toNat) (K (a + 2) - 25)) (12 + 2 * (ld 3).toNat) (V (a + 4)))) 3 (ld 3 + 1)) 2 ≤ 4) ∧ (0 ≤ (sp_up ((sp_up (sp_up ld (11 + 2 * (ld 3).toNat) (K (a + 2) - 25)) (12 + 2 * (ld 3).toNat) (V (a + 4)))) 3 (ld 3 + 1)) 3 ∧ (sp_up ((sp_up (sp_up ld (11 + 2 * (ld 3).toNat) (K (a + 2) - 25)) (12 + 2 * (ld 3).toNat) (V (a + 4)))) 3 (ld 3 + 1)) 3 ≤ 5) ∧ (0 ≤ (sp_up ((sp_up (sp_up ld (11 + 2 * (ld 3).toNat) (K (a + 2) - 25)) (12 + 2 * (ld 3).toNat) (V (a + 4)))) 3 (ld 3 + 1)) 4 ∧ (sp_up ((sp_up (sp_up ld (11 + 2 * (ld 3).toNat) (K (a + 2) - 25)) (12 + 2 * (ld 3).toNat) (V (a + 4)))) 3 (ld 3 + 1)) 4 ≤ 4) ∧ (0 ≤ (sp_up ((sp_up (sp_up ld (11 + 2 * (ld 3).toNat) (K (a + 2) - 25)) (12 + 2 * (ld 3).toNat) (V (a + 4)))) 3 (ld 3 + 1)) 5 ∧ (sp_up ((sp_up (sp_up ld (11 + 2 * (ld 3).toNat) (K (a + 2) - 25)) (12 + 2 * (ld 3).toNat) (V (a + 4)))) 3 (ld 3 + 1)) 5 ≤ 6)) := by
            rw [sp_up_e]
            repeat rw [sp_up_n _ _ (by omega)]
            omega
          have hW77 := mt_W_w (i := 3) (I' := I75) (ld 3 + 1) hW71 (fun _ => by rw [← w76, show 53 = 50 + (3) by omega, yi_u_eq]; first | done | omega) (fun p k hp => by rw [← w76, yi_u_ne _ _ (by omega)]) hb78
          have hf79 : I75 82 8 = 0 := by rw [← w76, yi_u_ne _ _ (by omega)]; exact hf72
          have hA80 : mt_A I75 te (a + 5) := ⟨by rw [← w76, yi_u_ne _ _ (by omega)]; exact hA73.1, hA73.2⟩
          have hmc81 := mc_w (I' := I75) hmc74 (fun p k hp => by rw [← w76, yi_u_ne _ _ (by omega)])
          refine yi_D_retv rfl ?_
          have hstep : sp_R K P V (2, a, 0, [], ld, nm, cs) (.inl (1, (a + 5), 0, [], (sp_up (sp_up (sp_up ld (11 + 2 * (ld 3).toNat) (K (a + 2) - 25)) (12 + 2 * (ld 3).toNat) (V (a + 4))) (3) (ld 3 + 1)), (sp_un nm (V (a + 1)) (8 + (ld 3))), cs)) := sp_R_1 (by
            show sp_line K P V a ld nm cs = _
            unfold sp_line; (repeat (first | rw [if_pos (by omega)] | rw [if_neg (by omega)])); unfold sp_prophet; (repeat (first | rw [if_pos (by omega)] | rw [if_neg (by omega)])))
          have hml2 : ml_S gg I75 ((sp_up (sp_up (sp_up ld (11 + 2 * (ld 3).toNat) (K (a + 2) - 25)) (12 + 2 * (ld 3).toNat) (V (a + 4))) (3) (ld 3 + 1))) cs := ml_A hml hmc81 (fun k hk => by rw [← w76, yi_u_ne _ _ (by omega), ← w70, yi_u_ne _ _ (by omega), hGa49 88 k (by omega), ← w40, yi_u_ne _ _ (by omega), hGn34 88 k (by omega), h8815 88 k (by omega)]) (fun j hj => by (repeat rw [sp_up_n _ _ (by omega)]))
          exact ⟨_, _, rfl, ⟨fun p k hp => by rw [← w76, yi_u_ne _ _ (by omega), ← w70, yi_u_ne _ _ (by omega), hGa49 p k (by omega), ← w40, yi_u_ne _ _ (by omega), hGn34 p k (by omega), h8815 p k (by omega)], fun p k hp => by rw [hL27 p k (by omega)]⟩, Or.inl ⟨_, _, _, _, hstep, by omega, hf79, hA80, hW77, (by (repeat rw [sp_up_n _ _ (by omega)]); exact hd0), (fun x => by rw [← w76, yi_u_ne _ _ (by omega), ← w70, yi_u_ne _ _ (by omega), hGa49 88 56 (by omega), ← w40, yi_u_ne _ _ (by omega), hGn34 88 56 (by omega), h8815 88 56 (by omega)]; exact h6 (by (repeat rw [sp_up_n _ _ (by omega)] at x); exact x)), hml2⟩⟩
        · have c52 : ¬ K (a + 3) = 4 + 5 := c52
          have hW82 := mt_W_t hW41 (mt_G_F hGa54)
          have hmc83 := mc_G hmc44 hGa54
          have hz84 : 0 < sp_f P (a + 3) 1 := mt_f_ne hW41 hA43.2 (by omega)
          have hn85 : 0 < I53 82 8 := by rw [he55]; exact hz84
          have hx86 : sp_R K P V (2, a, 0, [], ld, nm, cs) (.inr (sp_f P (a + 3) 1)) := sp_R_1 (by
            show sp_line K P V a ld nm cs = _
            first
            | (exfalso; omega)
            | (unfold sp_line; (repeat (first | rw [if_pos (by omega)] | rw [if_neg (by omega)])); unfold sp_prophet; (repeat (first | rw [if_pos (by omega)] | rw [if_neg (by omega)])); done))
          show yi_D zi_Ms d zi_m103 k (99, [(2, .inl z29), (1, .inl (ld 3)), (0, .inr (.inr (some 82)))], [.inl z56, .inl ((61 + (2 * (ld 3))) + 1), .inr (.inr (some 88))], (I53, L12, R, Y), 0, 0) _
          refine yi_D_is rfl (fun _ _ => ?_)
          generalize w88 : yi_u I53 88 (((61 + (2 * (ld 3))) + 1).toNat) z56 = I87
          have hW89 := mt_W_w (i := 12 + 2 * (ld 3).toNat) (I' := I87) (z56) hW82 (fun _ => by rw [← w88, show (((61 + (2 * (ld 3))) + 1).toNat) = 50 + (12 + 2 * (ld 3).toNat) by omega, yi_u_eq]; first | done | omega) (fun p k hp => by rw [← w88, yi_u_ne _ _ (by omega)]) (mt_bd hW82 (by omega) _)
          have hf90 : 0 < I87 82 8 := by rw [← w88, yi_u_ne _ _ (by omega)]; exact hn85
          have he91 : I87 82 8 = _ := (show I87 82 8 = I53 82 8 by rw [← w88, yi_u_ne _ _ (by omega)]).trans he55
          refine yi_D_run 1 (101, [(2, .inl z29), (1, .inl (ld 3)), (0, .inr (.inr (some 82)))], [.inr (.inr (some 82))], (I87, L12, R, Y), 0, 0) (fun _ => rfl) ?_
          refine yi_D_gr (v := some 88) rfl rfl rfl (ym_S_at hS (j := 5) rfl).1 (fun _ => ?_)
          refine yi_D_run 2 (107, [(2, .inl z29), (1, .inl (ld 3)), (0, .inr (.inr (some 82)))], [.inl 53, .inr (.inr (some 88)), .inl 53, .inr (.inr (some 88))], (I87, L12, R, Y), 0, 0) (fun _ => rfl) ?_
          refine yi_D_il (v := ld 3) rfl rfl (show I87 88 53 = ld 3 from (hW89.2.2.2.1 3 (by omega)).trans (by repeat rw [sp_up_n _ _ (by omega)])) (fun _ _ => ?_)
          refine yi_D_run 1 (109, [(2, .inl z29), (1, .inl (ld 3)), (0, .inr (.inr (some 82)))], [.inl 1, .inl (ld 3), .inl 53, .inr (.inr (some 88))], (I87, L12, R, Y), 0, 0) (fun _ => rfl) ?_
          refine yi_D_iadd rfl ((ld 3) + 1) (yi_wn (by omega) (by omega)) ?_
          refine yi_D_is rfl (fun _ _ => ?_)
          show yi_D zi_Ms d zi_m103 k (111, [(2, .inl z29), (1, .inl (ld 3)), (0, .inr (.inr (some 82)))], [], ((yi_u I87 88 53 ((ld 3) + 1)), L12, R, Y), 0, 0) _
          generalize w93 : yi_u I87 88 53 ((ld 3) + 1) = I92
          have hf94 : 0 < I92 82 8 := by rw [← w93, yi_u_ne _ _ (by omega)]; exact hf90
          have he95 : I92 82 8 = _ := (show I92 82 8 = I87 82 8 by rw [← w93, yi_u_ne _ _ (by omega)]).trans he91
          refine yi_D_retv rfl ?_
          exact ⟨_, _, rfl, ⟨fun p k hp => by rw [← w93, yi_u_ne _ _ (by omega), ← w88, yi_u_ne _ _ (by omega), hGa54 p k (by omega), ← w40, yi_u_ne _ _ (by omega), hGn34 p k (by omega), h8815 p k (by omega)], fun p k hp => by rw [hL27 p k (by omega)]⟩, Or.inr ⟨_, hx86, hz84, he95⟩⟩
        · have c57 : K (a + 3) = 4 + 5 ∧ ¬ K (a + 4) = 2 := c57
          have hW96 := mt_W_t hW41 (mt_G_F hGa59)
          have hmc97 := mc_G hmc44 hGa59
          have hA98 : mt_A I39 te (a + 3) ∨ True := Or.inr trivial
          have hz99 : 0 < sp_f P (a + 4) 1 := mt_f_ne hW41 (mt_lt hW41.2.1 hA43.2 (by omega)) (by omega)
          have hn100 : 0 < I58 82 8 := by rw [he60]; exact hz99
          have hx101 : sp_R K P V (2, a, 0, [], ld, nm, cs) (.inr (sp_f P (a + 4) 1)) := sp_R_1 (by
            show sp_line K P V a ld nm cs = _
            first
            | (exfalso; omega)
            | (unfold sp_line; (repeat (first | rw [if_pos (by omega)] | rw [if_neg (by omega)])); unfold sp_prophet; (repeat (first | rw [if_pos (by omega)] | rw [if_neg (by omega)])); done))
          show yi_D zi_Ms d zi_m103 k (99, [(2, .inl z29), (1, .inl (ld 3)), (0, .inr (.inr (some 82)))], [.inl z61, .inl ((61 + (2 * (ld 3))) + 1), .inr (.inr (some 88))], (I58, L12, R, Y), 0, 0) _
          refine yi_D_is rfl (fun _ _ => ?_)
          generalize w103 : yi_u I58 88 (((61 + (2 * (ld 3))) + 1).toNat) z61 = I102
          have hW104 := mt_W_w (i := 12 + 2 * (ld 3).toNat) (I' := I102) (z61) hW96 (fun _ => by rw [← w103, show (((61 + (2 * (ld 3))) + 1).toNat) = 50 + (12 + 2 * (ld 3).toNat) by omega, yi_u_eq]; first | done | omega) (fun p k hp => by rw [← w103, yi_u_ne _ _ (by omega)]) (mt_bd hW96 (by omega) _)
          have hf105 : 0 < I102 82 8 := by rw [← w103, yi_u_ne _ _ (by omega)]; exact hn100
          have he106 : I102 82 8 = _ := (show I102 82 8 = I58 82 8 by rw [← w103, yi_u_ne _ _ (by omega)]).trans he60
          refine yi_D_run 1 (101, [(2, .inl z29), (1, .inl (ld 3)), (0, .inr (.inr (some 82)))], [.inr (.inr (some 82))], (I102, L12, R, Y), 0, 0) (fun _ => rfl) ?_
          refine yi_D_gr (v := some 88) rfl rfl rfl (ym_S_at hS (j := 5) rfl).1 (fun _ => ?_)
          refine yi_D_run 2 (107, [(2, .inl z29), (1, .inl (ld 3)), (0, .inr (.inr (some 82)))], [.inl 53, .inr (.inr (some 88)), .inl 53, .inr (.inr (some 88))], (I102, L12, R, Y), 0, 0) (fun _ => rfl) ?_
          refine yi_D_il (v := ld 3) rfl rfl (show I102 88 53 = ld 3 from (hW104.2.2.2.1 3 (by omega)).trans (by repeat rw [sp_up_n _ _ (by omega)])) (fun _ _ => ?_)
          refine yi_D_run 1 (109, [(2, .inl z29), (1, .inl (ld 3)), (0, .inr (.inr (some 82)))], [.inl 1, .inl (ld 3), .inl 53, .inr (.inr (some 88))], (I102, L12, R, Y), 0, 0) (fun _ => rfl) ?_
          refine yi_D_iadd rfl ((ld 3) + 1) (yi_wn (by omega) (by omega)) ?_
          refine yi_D_is rfl (fun _ _ => ?_)
          show yi_D zi_Ms d zi_m103 k (111, [(2, .inl z29), (1, .inl (ld 3)), (0, .inr (.inr (some 82)))], [], ((yi_u I102 88 53 ((ld 3) + 1)), L12, R, Y), 0, 0) _
          generalize w108 : yi_u I102 88 53 ((ld 3) + 1) = I107
          have hf109 : 0 < I107 82 8 := by rw [← w108, yi_u_ne _ _ (by omega)]; exact hf105
          have he110 : I107 82 8 = _ := (show I107 82 8 = I102 82 8 by rw [← w108, yi_u_ne _ _ (by omega)]).trans he106
          refine yi_D_retv rfl ?_
          exact ⟨_, _, rfl, ⟨fun p k hp => by rw [← w108, yi_u_ne _ _ (by omega), ← w103, yi_u_ne _ _ (by omega), hGa59 p k (by omega), ← w40, yi_u_ne _ _ (by omega), hGn34 p k (by omega), h8815 p k (by omega)], fun p k hp => by rw [hL27 p k (by omega)]⟩, Or.inr ⟨_, hx101, hz99, he110⟩⟩
        · have c62 : K (a + 3) = 4 + 5 ∧ K (a + 4) = 2 ∧ (V (a + 4) < 0 ∨ 999 < V (a + 4)) := c62
          have hW111 := mt_W_t hW41 (mt_G_F hGa64)
          have hmc112 := mc_G hmc44 hGa64
          have hA113 : mt_A I39 te (a + 3) ∨ True := Or.inr trivial
          have hz114 : 0 < sp_f P (a + 4) 4 := mt_f_ne hW41 (mt_lt hW41.2.1 hA43.2 (by omega)) (by omega)
          have hn115 : 0 < I63 82 8 := by rw [he65]; exact hz114
          have hx116 : sp_R K P V (2, a, 0, [], ld, nm, cs) (.inr (sp_f P (a + 4) 4)) := sp_R_1 (by
            show sp_line K P V a ld nm cs = _
            first
            | (exfalso; omega)
            | (unfold sp_line; (repeat (first | rw [if_pos (by omega)] | rw [if_neg (by omega)])); unfold sp_prophet; (repeat (first | rw [if_pos (by omega)] | rw [if_neg (by omega)])); done))
          show yi_D zi_Ms d zi_m103 k (99, [(2, .inl z29), (1, .inl (ld 3)), (0, .inr (.inr (some 82)))], [.inl z66, .inl ((61 + (2 * (ld 3))) + 1), .inr (.inr (some 88))], (I63, L12, R, Y), 0, 0) _
          refine yi_D_is rfl (fun _ _ => ?_)
          generalize w118 : yi_u I63 88 (((61 + (2 * (ld 3))) + 1).toNat) z66 = I117
          have hW119 := mt_W_w (i := 12 + 2 * (ld 3).toNat) (I' := I117) (z66) hW111 (fun _ => by rw [← w118, show (((61 + (2 * (ld 3))) + 1).toNat) = 50 + (12 + 2 * (ld 3).toNat) by omega, yi_u_eq]; first | done | omega) (fun p k hp => by rw [← w118, yi_u_ne _ _ (by omega)]) (mt_bd hW111 (by omega) _)
          have hf120 : 0 < I117 82 8 := by rw [← w118, yi_u_ne _ _ (by omega)]; exact hn115
          have he121 : I117 82 8 = _ := (show I117 82 8 = I63 82 8 by rw [← w118, yi_u_ne _ _ (by omega)]).trans he65
          refine yi_D_run 1 (101, [(2, .inl z29), (1, .inl (ld 3)), (0, .inr (.inr (some 82)))], [.inr (.inr (some 82))], (I117, L12, R, Y), 0, 0) (fun _ => rfl) ?_
          refine yi_D_gr (v := some 88) rfl rfl rfl (ym_S_at hS (j := 5) rfl).1 (fun _ => ?_)
          refine yi_D_run 2 (107, [(2, .inl z29), (1, .inl (ld 3)), (0, .inr (.inr (some 82)))], [.inl 53, .inr (.inr (some 88)), .inl 53, .inr (.inr (some 88))], (I117, L12, R, Y), 0, 0) (fun _ => rfl) ?_
          refine yi_D_il (v := ld 3) rfl rfl (show I117 88 53 = ld 3 from (hW119.2.2.2.1 3 (by omega)).trans (by repeat rw [sp_up_n _ _ (by omega)])) (fun _ _ => ?_)
          refine yi_D_run 1 (109, [(2, .inl z29), (1, .inl (ld 3)), (0, .inr (.inr (some 82)))], [.inl 1, .inl (ld 3), .inl 53, .inr (.inr (some 88))], (I117, L12, R, Y), 0, 0) (fun _ => rfl) ?_
          refine yi_D_iadd rfl ((ld 3) + 1) (yi_wn (by omega) (by omega)) ?_
          refine yi_D_is rfl (fun _ _ => ?_)
          show yi_D zi_Ms d zi_m103 k (111, [(2, .inl z29), (1, .inl (ld 3)), (0, .inr (.inr (some 82)))], [], ((yi_u I117 88 53 ((ld 3) + 1)), L12, R, Y), 0, 0) _
          generalize w123 : yi_u I117 88 53 ((ld 3) + 1) = I122
          have hf124 : 0 < I122 82 8 := by rw [← w123, yi_u_ne _ _ (by omega)]; exact hf120
          have he125 : I122 82 8 = _ := (show I122 82 8 = I117 82 8 by rw [← w123, yi_u_ne _ _ (by omega)]).trans he121
          refine yi_D_retv rfl ?_
          exact ⟨_, _, rfl, ⟨fun p k hp => by rw [← w123, yi_u_ne _ _ (by omega), ← w118, yi_u_ne _ _ (by omega), hGa64 p k (by omega), ← w40, yi_u_ne _ _ (by omega), hGn34 p k (by omega), h8815 p k (by omega)], fun p k hp => by rw [hL27 p k (by omega)]⟩, Or.inr ⟨_, hx116, hz114, he125⟩⟩
      · refine yi_D_if1 false rfl (yi_ge_f h31) ?_
        refine yi_D_run 2 (52, [(2, .inl z29), (1, .inl (ld 3)), (0, .inr (.inr (some 82)))], [.inl 1, .inr (.inr (some 82))], (I11, L12, R, Y), 0, 0) (fun _ => rfl) ?_
        refine yi_D_callv rfl (q_wrong_z ⟨by omega, by omega⟩ hW18 hf16 hA17) ?_
        rintro _ ⟨I126, rfl, hg127, he128⟩
        have hGw129 : mt_G I11 I126 := fun p k hp => hg127 p k (by omega)
        have hW130 := mt_W_t hW18 (mt_G_F hGw129)
        have hmc131 := mc_G hmc28 hGw129
        have hz132 : 0 < sp_f P (a + 2) 1 := mt_f_ne hW18 hA17.2 (by omega)
        have hn133 : 0 < I126 82 8 := by rw [he128]; exact hz132
        have hx134 : sp_R K P V (2, a, 0, [], ld, nm, cs) (.inr (sp_f P (a + 2) 1)) := sp_R_1 (by
          show sp_line K P V a ld nm cs = _
          first
          | (exfalso; omega)
          | (unfold sp_line; (repeat (first | rw [if_pos (by omega)] | rw [if_neg (by omega)])); unfold sp_prophet; (repeat (first | rw [if_pos (by omega)] | rw [if_neg (by omega)])); done))
        show yi_D zi_Ms d zi_m103 k (55, [(2, .inl z29), (1, .inl (ld 3)), (0, .inr (.inr (some 82)))], [], (I126, L12, R, Y), 0, 0) _
        refine yi_D_retv rfl ?_
        exact ⟨_, _, rfl, ⟨fun p k hp => by rw [hGw129 p k (by omega), h8815 p k (by omega)], fun p k hp => by rw [hL27 p k (by omega)]⟩, Or.inr ⟨_, hx134, hz132, he128⟩⟩
    · have hW135 := mt_W_t hW (mt_G_F hGa21)
      have hmc136 := mc_G hm hGa21
      have hz137 : 0 < sp_f P (a + 1) 1 := mt_f_ne hW (mt_lt hW.2.1 hA.2 (by omega)) (by omega)
      have hn138 : 0 < I20 82 8 := by rw [he22]; exact hz137
      have hx139 : sp_R K P V (2, a, 0, [], ld, nm, cs) (.inr (sp_f P (a + 1) 1)) := sp_R_1 (by
        show sp_line K P V a ld nm cs = _
        first
        | (exfalso; omega)
        | (unfold sp_line; (repeat (first | rw [if_pos (by omega)] | rw [if_neg (by omega)])); unfold sp_prophet; (repeat (first | rw [if_pos (by omega)] | rw [if_neg (by omega)])); done))
      show yi_D zi_Ms d zi_m103 k (27, [(1, .inl (ld 3)), (0, .inr (.inr (some 82)))], [], (I20, L, R, Y), 0, 0) _
      refine yi_D_run 1 (28, [(1, .inl (ld 3)), (0, .inr (.inr (some 82)))], [.inr (.inr (some 82))], (I20, L, R, Y), 0, 0) (fun _ => rfl) ?_
      refine yi_D_gi (v := I20 82 8) rfl rfl rfl rfl (fun _ => ?_)
      have h140 : ¬ ((I20 82 8) ≤ 0) := by omega
      refine yi_D_if1 false rfl (yi_le_f h140) ?_
      refine yi_D_run 4 (47, [(2, .inl (-1)), (1, .inl (ld 3)), (0, .inr (.inr (some 82)))], [.inl (-1)], (I20, L, R, Y), 0, 0) (fun _ => rfl) ?_
      refine yi_D_if1 false rfl (by decide) ?_
      refine yi_D_run 2 (52, [(2, .inl (-1)), (1, .inl (ld 3)), (0, .inr (.inr (some 82)))], [.inl 1, .inr (.inr (some 82))], (I20, L, R, Y), 0, 0) (fun _ => rfl) ?_
      refine yi_D_callv rfl (q_wrong_f hW135 hn138) ?_
      rintro _ rfl
      show yi_D zi_Ms d zi_m103 k (55, [(2, .inl (-1)), (1, .inl (ld 3)), (0, .inr (.inr (some 82)))], [], (I20, L, R, Y), 0, 0) _
      refine yi_D_retv rfl ?_
      exact ⟨_, _, rfl, ⟨fun p k hp => by rw [hGa21 p k (by omega)], fun p k hp => rfl⟩, Or.inr ⟨_, hx139, hz137, he22⟩⟩
    · have hW141 := mt_W_t hW (mt_G_F hGa25)
      have hmc142 := mc_G hm hGa25
      have hz143 : 0 < sp_f P (a + 1) 3 := mt_f_ne hW (mt_lt hW.2.1 hA.2 (by omega)) (by omega)
      have hn144 : 0 < I24 82 8 := by rw [he26]; exact hz143
      have hx145 : sp_R K P V (2, a, 0, [], ld, nm, cs) (.inr (sp_f P (a + 1) 3)) := sp_R_1 (by
        show sp_line K P V a ld nm cs = _
        first
        | (exfalso; omega)
        | (unfold sp_line; (repeat (first | rw [if_pos (by omega)] | rw [if_neg (by omega)])); unfold sp_prophet; (repeat (first | rw [if_pos (by omega)] | rw [if_neg (by omega)])); done))
      show yi_D zi_Ms d zi_m103 k (27, [(1, .inl (ld 3)), (0, .inr (.inr (some 82)))], [], (I24, L, R, Y), 0, 0) _
      refine yi_D_run 1 (28, [(1, .inl (ld 3)), (0, .inr (.inr (some 82)))], [.inr (.inr (some 82))], (I24, L, R, Y), 0, 0) (fun _ => rfl) ?_
      refine yi_D_gi (v := I24 82 8) rfl rfl rfl rfl (fun _ => ?_)
      have h146 : ¬ ((I24 82 8) ≤ 0) := by omega
      refine yi_D_if1 false rfl (yi_le_f h146) ?_
      refine yi_D_run 4 (47, [(2, .inl (-1)), (1, .inl (ld 3)), (0, .inr (.inr (some 82)))], [.inl (-1)], (I24, L, R, Y), 0, 0) (fun _ => rfl) ?_
      refine yi_D_if1 false rfl (by decide) ?_
      refine yi_D_run 2 (52, [(2, .inl (-1)), (1, .inl (ld 3)), (0, .inr (.inr (some 82)))], [.inl 1, .inr (.inr (some 82))], (I24, L, R, Y), 0, 0) (fun _ => rfl) ?_
      refine yi_D_callv rfl (q_wrong_f hW141 hn144) ?_
      rintro _ rfl
      show yi_D zi_Ms d zi_m103 k (55, [(2, .inl (-1)), (1, .inl (ld 3)), (0, .inr (.inr (some 82)))], [], (I24, L, R, Y), 0, 0) _
      refine yi_D_retv rfl ?_
      exact ⟨_, _, rfl, ⟨fun p k hp => by rw [hGa25 p k (by omega)], fun p k hp => rfl⟩, Or.inr ⟨_, hx145, hz143, he26⟩⟩
theorem q_readLawC {d : Nat} {I L : Nat → Nat → Int} {R : Nat → Nat → Option Nat} {Y : (Nat → Nat) × (Nat → Nat) × Nat} {K P V : Nat → Int} {te a : Nat} {ld : Nat → Int} {nm : Int → Int} (hW : mt_W I L R Y K P V te 50 ld nm) (hf : I 82 8 = 0) (hA : mt_A I te a) (cs : List (Int × Int)) (hd0 : 1 ≤ ld 0) (h6 : ld 6 < 0 → I 88 56 < 0) {gg : Nat → Int × Int} (hml : ml_S gg I ld cs) (hk : K a = 10) : yi_P zi_Ms d 98 [.inr (.inr (some 82))] (I, L, R, Y) (mt_QLC gg I L R Y K P V te (2, a, 0, [], ld, nm, cs) a) := by
  refine yi_P_of (M := zi_m98) rfl (fun d k => ?_)
  have hS := hW.1
  have ht := hW.2.1.1
  have ha := hA.2
  have hp := hW.2.1.2.1 a hA.2
  have hbd := hW.2.2.2.2.2.2.1
  have hc3 : I 88 56 < 0 → ld 6 < 0 := hW.2.2.2.2.1
  have hm := hml.1
  show yi_D zi_Ms d zi_m98 k (0, [(0, .inr (.inr (some 82)))], [], (I, L, R, Y), 0, 0) _
  refine yi_D_run 1 (1, [(0, .inr (.inr (some 82)))], [.inr (.inr (some 82))], (I, L, R, Y), 0, 0) (fun _ => rfl) ?_
  refine yi_D_gr (v := some 88) rfl rfl rfl (ym_S_at hS (j := 5) rfl).1 (fun _ => ?_)
  refine yi_D_run 1 (6, [(0, .inr (.inr (some 82)))], [.inl 54, .inr (.inr (some 88))], (I, L, R, Y), 0, 0) (fun _ => rfl) ?_
  refine yi_D_il (v := ld 4) rfl rfl (show I 88 54 = ld 4 from hW.2.2.2.1 4 (by omega)) (fun _ _ => ?_)
  refine yi_D_run 3 (10, [(1, .inl (ld 4)), (0, .inr (.inr (some 82)))], [.inl 4, .inl (ld 4)], (I, L, R, Y), 0, 0) (fun _ => rfl) ?_
  by_cases h1 : (ld 4) = 4
  · refine yi_D_if2 false rfl (yi_ne_f h1) ?_
    refine yi_D_run 2 (15, [(1, .inl (ld 4)), (0, .inr (.inr (some 82)))], [.inl 5, .inr (.inr (some 82))], (I, L, R, Y), 0, 0) (fun _ => rfl) ?_
    refine yi_D_callv rfl (q_wrong_z ⟨by omega, by omega⟩ hW hf hA) ?_
    rintro _ ⟨I2, rfl, hg3, he4⟩
    have hGw5 : mt_G I I2 := fun p k hp => hg3 p k (by omega)
    have hW6 := mt_W_t hW (mt_G_F hGw5)
    have hmc7 := mc_G hm hGw5
    have hz8 : 0 < sp_f P a 5 := mt_f_ne hW hA.2 (by omega)
    have hn9 : 0 < I2 82 8 := by rw [he4]; exact hz8
    have hx10 : sp_R K P V (2, a, 0, [], ld, nm, cs) (.inr (sp_f P a 5)) := sp_R_1 (by
      show sp_line K P V a ld nm cs = _
      first
      | (exfalso; omega)
      | (unfold sp_line; (repeat (first | rw [if_pos (by omega)] | rw [if_neg (by omega)])); done))
    show yi_D zi_Ms d zi_m98 k (18, [(1, .inl (ld 4)), (0, .inr (.inr (some 82)))], [], (I2, L, R, Y), 0, 0) _
    refine yi_D_retv rfl ?_
    exact ⟨_, _, rfl, ⟨fun p k hp => by rw [hGw5 p k (by omega)], fun p k hp => rfl⟩, Or.inr ⟨_, hx10, hz8, he4⟩⟩
  · refine yi_D_if2 true rfl (yi_ne_t h1) ?_
    refine yi_D_run 2 (21, [(1, .inl (ld 4)), (0, .inr (.inr (some 82)))], [.inr (.inr (some 82)), .inr (.inr (some 82))], (I, L, R, Y), 0, 0) (fun _ => rfl) ?_
    refine yi_D_gi (v := (a : Int)) rfl rfl rfl hA.1 (fun _ => ?_)
    refine yi_D_run 1 (25, [(1, .inl (ld 4)), (0, .inr (.inr (some 82)))], [.inl 1, .inl (a : Int), .inr (.inr (some 82))], (I, L, R, Y), 0, 0) (fun _ => rfl) ?_
    refine yi_D_iadd rfl ((a : Int) + 1) (yi_wn (by omega) (by omega)) ?_
    refine yi_D_pi rfl (fun _ => ?_)
    generalize w12 : yi_u I 82 7 ((a : Int) + 1) = I11
    have hGn13 : mt_G I I11 := fun p k hp => by rw [← w12, yi_u_ne _ _ (by omega)]
    have hW14 := mt_W_t hW (mt_G_F hGn13)
    have hmc15 := mc_G hm hGn13
    have hf16 : I11 82 8 = 0 := by rw [← w12, yi_u_ne _ _ (by omega)]; exact hf
    have hA17 : mt_A I11 te (a + 1) := ⟨by rw [← w12, yi_u_eq]; omega, mt_lt hW14.2.1 hA.2 (by omega)⟩
    refine yi_D_run 1 (30, [(1, .inl (ld 4)), (0, .inr (.inr (some 82)))], [.inr (.inr (some 82))], (I11, L, R, Y), 0, 0) (fun _ => rfl) ?_
    refine yi_D_gr (v := some 88) rfl rfl rfl (ym_S_at hS (j := 5) rfl).1 (fun _ => ?_)
    refine yi_D_run 2 (36, [(1, .inl (ld 4)), (0, .inr (.inr (some 82)))], [.inl (ld 4), .inl 71, .inr (.inr (some 88))], (I11, L, R, Y), 0, 0) (fun _ => rfl) ?_
    refine yi_D_iadd rfl (71 + (ld 4)) (yi_wn (by omega) (by omega)) ?_
    refine yi_D_run 1 (38, [(1, .inl (ld 4)), (0, .inr (.inr (some 82)))], [.inr (.inr (some 82)), .inl (71 + (ld 4)), .inr (.inr (some 88))], (I11, L, R, Y), 0, 0) (fun _ => rfl) ?_
    
    refine yi_D_gi (v := (cs.length : Int)) rfl rfl rfl hmc15.1 (fun _ => ?_)
    refine yi_D_is rfl (fun _ _ => ?_)
    generalize w19 : yi_u I11 88 ((71 + (ld 4)).toNat) (cs.length : Int) = I18
    have hW20 := mt_W_w (i := 21 + (ld 4).toNat) (I' := I18) (((cs.length : Nat) : Int)) hW14 (fun h => absurd h (by omega)) (fun p k hp => by rw [← w19, yi_u_ne _ _ (by omega)]) (mt_bd hW14 (by omega) _)
    have hf21 : I18 82 8 = 0 := by rw [← w19, yi_u_ne _ _ (by omega)]; exact hf16
    have hA22 : mt_A I18 te (a + 1) := ⟨by rw [← w19, yi_u_ne _ _ (by omega)]; exact hA17.1, hA17.2⟩
    have hmc23 := mc_w (I' := I18) hmc15 (fun p k hp => by rw [← w19, yi_u_ne _ _ (by omega)])
    refine yi_D_run 2 (44, [(1, .inl (ld 4)), (0, .inr (.inr (some 82)))], [.inl 0, .inr (.inr (some 82))], (I18, L, R, Y), 0, 0) (fun _ => rfl) ?_
    have hst24 : sp_R K P V (2, a, 0, [], ld, nm, cs) (.inl (3, a + 1, 0, [10, 20], (sp_up ld (21 + (ld 4).toNat) (cs.length : Nat)), nm, cs)) := sp_R_1 (by
      show sp_line K P V a ld nm cs = _
      unfold sp_line; (repeat (first | rw [if_pos (by omega)] | rw [if_neg (by omega)])))
    refine yi_D_callv rfl (q_readFormulaC 0 [20] cs hW20 hf21 hA22 (by omega) hmc23) ?_
    rintro _ ⟨I25, rfl, hFr26, (⟨a27, cs28, hR29, lt30, hf31, hA32, hmc33, hwf34⟩ | ⟨f35, hR36, hz37, he38⟩)⟩
    · have hW39 := mt_W_t hW20 hFr26
      have hl4 : (sp_up ld (21 + (ld 4).toNat) (cs.length : Nat)) 4 = ld 4 := by repeat rw [sp_up_n _ _ (by omega)]
      have hR40 : sp_R K P V (2, a, 0, [], ld, nm, cs) (.inl (1, a27, 0, [], sp_up (sp_up ld (21 + (ld 4).toNat) (cs.length : Nat)) 4 (ld 4 + 1), nm, cs28 ++ [(0, 0)])) := sp_R_s (sp_R_t hst24 hR29) (sp_st20 hl4)
      have hwf41 : wfX pF (13) cs cs28 := wfX_m hwf34 (by omega)
      show yi_D zi_Ms d zi_m98 k (47, [(1, .inl (ld 4)), (0, .inr (.inr (some 82)))], [], (I25, L, R, Y), 0, 0) _
      refine yi_D_run 3 (50, [(1, .inl (ld 4)), (0, .inr (.inr (some 82)))], [.inl 0, .inl 0, .inr (.inr (some 82))], (I25, L, R, Y), 0, 0) (fun _ => rfl) ?_
      refine yi_D_callv rfl (q_emitC hW39 hmc33) ?_
      rintro _ ⟨I42, rfl, hE43, hmc44⟩
      have hW45 := mt_W_t hW39 (mt_E_F hE43)
      have hf46 : I42 82 8 = 0 := (hE43.1 82 8 (by omega)).trans hf31
      have hA47 : mt_A I42 te a27 := ⟨(hE43.1 82 7 (by omega)).trans hA32.1, hA32.2⟩
      show yi_D zi_Ms d zi_m98 k (53, [(1, .inl (ld 4)), (0, .inr (.inr (some 82)))], [], (I42, L, R, Y), 0, 0) _
      refine yi_D_run 1 (54, [(1, .inl (ld 4)), (0, .inr (.inr (some 82)))], [.inr (.inr (some 82))], (I42, L, R, Y), 0, 0) (fun _ => rfl) ?_
      refine yi_D_gr (v := some 88) rfl rfl rfl (ym_S_at hS (j := 5) rfl).1 (fun _ => ?_)
      refine yi_D_run 2 (60, [(1, .inl (ld 4)), (0, .inr (.inr (some 82)))], [.inl 54, .inr (.inr (some 88)), .inl 54, .inr (.inr (some 88))], (I42, L, R, Y), 0, 0) (fun _ => rfl) ?_
      have r48 : I42 88 54 = ld 4 := by rw [((mt_E_F hE43)).1 88 54 (by omega), (hFr26).1 88 54 (by omega), (show I18 88 54 = ld 4 from (hW20.2.2.2.1 4 (by omega)).trans (by repeat rw [sp_up_n _ _ (by omega)]))]
      refine yi_D_il (v := ld 4) rfl rfl r48 (fun _ _ => ?_)
      refine yi_D_run 1 (62, [(1, .inl (ld 4)), (0, .inr (.inr (some 82)))], [.inl 1, .inl (ld 4), .inl 54, .inr (.inr (some 88))], (I42, L, R, Y), 0, 0) (fun _ => rfl) ?_
      refine yi_D_iadd rfl ((ld 4) + 1) (yi_wn (by omega) (by omega)) ?_
      refine yi_D_is rfl (fun _ _ => ?_)
      show yi_D zi_Ms d zi_m98 k (64, [(1, .inl (ld 4)), (0, .inr (.inr (some 82)))], [], ((yi_u I42 88 54 ((ld 4) + 1)), L, R, Y), 0, 0) _
      generalize w50 : yi_u I42 88 54 ((ld 4) + 1) = I49
      have hb52 : ((0 ≤ (sp_up ((sp_up ld (21 + (ld 4).toNat) (((cs.length : Nat) : Int)))) 4 (ld 4 + 1)) 0 ∧ (sp_up ((sp_up ld (21 + (ld 4).toNat) (((cs.length : Nat) : Int)))) 4 (ld 4 + 1)) 0 ≤ 6) ∧ (0 ≤ (sp_up ((sp_up ld (21 + (ld 4).toNat) (((cs.length : Nat) : Int)))) 4 (ld 4 + 1)) 1 ∧ (sp_up ((sp_up ld (21 + (ld 4).toNat) (((cs.length : Nat) : Int)))) 4 (ld 4 + 1)) 1 ≤ 4) ∧ (0 ≤ (sp_up ((sp_up ld (21 + (ld 4).toNat) (((cs.length : Nat) : Int)))) 4 (ld 4 + 1)) 2 ∧ (sp_up ((sp_up ld (21 + (ld 4).toNat) (((cs.length : Nat) : Int)))) 4 (ld 4 + 1)) 2 ≤ 4) ∧ (0 ≤ (sp_up ((sp_up ld (21 + (ld 4).toNat) (((cs.length : Nat) : Int)))) 4 (ld 4 + 1)) 3 ∧ (sp_up ((sp_up ld (21 + (ld 4).toNat) (((cs.length : Nat) : Int)))) 4 (ld 4 + 1)) 3 ≤ 5) ∧ (0 ≤ (sp_up ((sp_up ld (21 + (ld 4).toNat) (((cs.length : Nat) : Int)))) 4 (ld 4 + 1)) 4 ∧ (sp_up ((sp_up ld (21 + (ld 4).toNat) (((cs.length : Nat) : Int)))) 4 (ld 4 + 1)) 4 ≤ 4) ∧ (0 ≤ (sp_up ((sp_up ld (21 + (ld 4).toNat) (((cs.length : Nat) : Int)))) 4 (ld 4 + 1)) 5 ∧ (sp_up ((sp_up ld (21 + (ld 4).toNat) (((cs.length : Nat) : Int)))) 4 (ld 4 + 1)) 5 ≤ 6)) := by
        rw [sp_up_e]
        repeat rw [sp_up_n _ _ (by omega)]
        omega
      have hW51 := mt_W_w (i := 4) (I' := I49) (ld 4 + 1) hW45 (fun _ => by rw [← w50, show 54 = 50 + (4) by omega, yi_u_eq]; first | done | omega) (fun p k hp => by rw [← w50, yi_u_ne _ _ (by omega)]) hb52
      have hf53 : I49 82 8 = 0 := by rw [← w50, yi_u_ne _ _ (by omega)]; exact hf46
      have hA54 : mt_A I49 te a27 := ⟨by rw [← w50, yi_u_ne _ _ (by omega)]; exact hA47.1, hA47.2⟩
      have hmc55 := mc_w (I' := I49) hmc44 (fun p k hp => by rw [← w50, yi_u_ne _ _ (by omega)])
      refine yi_D_retv rfl ?_
      have hstep := hR40
      have hml2 : ml_S gg I49 (sp_up (sp_up ld (21 + (ld 4).toNat) (((cs.length : Nat) : Int))) (4) (ld 4 + 1)) (cs28 ++ [(0, 0)]) := ml_law hml (n := (ld 4).toNat) (by omega) (by omega) hmc55 hwf41 (by rw [← w50, yi_u_ne _ _ (by omega), ((mt_E_F hE43)).1 88 (71 + (ld 4).toNat) (by omega), (hFr26).1 88 (71 + (ld 4).toNat) (by omega), ← w19, show 71 + (ld 4).toNat = ((71 + (ld 4)).toNat) by omega, yi_u_eq]) (fun k hk h1 => by rw [← w50, yi_u_ne _ _ (by omega), ((mt_E_F hE43)).1 88 k (by omega), (hFr26).1 88 k (by omega), ← w19, yi_u_ne _ _ (by omega), hGn13 88 k (by omega)]) (by rw [show (((ld 4).toNat : Nat) : Int) = ld 4 by omega])
      exact ⟨_, _, rfl, ⟨fun p k hp => by rw [← w50, yi_u_ne _ _ (by omega), ((mt_E_F hE43)).1 p k (by omega), (hFr26).1 p k (by omega), ← w19, yi_u_ne _ _ (by omega), hGn13 p k (by omega)], fun p k hp => rfl⟩, Or.inl ⟨_, _, _, _, hstep, by omega, hf53, hA54, hW51, (by (repeat rw [sp_up_n _ _ (by omega)]); exact hd0), (fun x => by rw [← w50, yi_u_ne _ _ (by omega), ((mt_E_F hE43)).1 88 56 (by omega), (hFr26).1 88 56 (by omega), ← w19, yi_u_ne _ _ (by omega), hGn13 88 56 (by omega)]; exact h6 (by (repeat rw [sp_up_n _ _ (by omega)] at x); exact x)), hml2⟩⟩
    · have hW56 := mt_W_t hW20 hFr26
      have hn57 : 0 < I25 82 8 := by rw [he38]; exact hz37
      have hx58 : sp_R K P V (2, a, 0, [], ld, nm, cs) (.inr f35) := sp_R_t hst24 hR36
      show yi_D zi_Ms d zi_m98 k (47, [(1, .inl (ld 4)), (0, .inr (.inr (some 82)))], [], (I25, L, R, Y), 0, 0) _
      refine yi_D_run 3 (50, [(1, .inl (ld 4)), (0, .inr (.inr (some 82)))], [.inl 0, .inl 0, .inr (.inr (some 82))], (I25, L, R, Y), 0, 0) (fun _ => rfl) ?_
      refine yi_D_callv rfl (q_emit hW56) ?_
      rintro _ ⟨I59, rfl, hE60⟩
      have hW61 := mt_W_t hW56 (mt_E_F hE60)
      have hf62 : 0 < I59 82 8 := by rw [hE60.1 82 8 (by omega)]; exact hn57
      have he63 := (hE60.1 82 8 (by omega)).trans he38
      show yi_D zi_Ms d zi_m98 k (53, [(1, .inl (ld 4)), (0, .inr (.inr (some 82)))], [], (I59, L, R, Y), 0, 0) _
      refine yi_D_run 1 (54, [(1, .inl (ld 4)), (0, .inr (.inr (some 82)))], [.inr (.inr (some 82))], (I59, L, R, Y), 0, 0) (fun _ => rfl) ?_
      refine yi_D_gr (v := some 88) rfl rfl rfl (ym_S_at hS (j := 5) rfl).1 (fun _ => ?_)
      refine yi_D_run 2 (60, [(1, .inl (ld 4)), (0, .inr (.inr (some 82)))], [.inl 54, .inr (.inr (some 88)), .inl 54, .inr (.inr (some 88))], (I59, L, R, Y), 0, 0) (fun _ => rfl) ?_
      have r64 : I59 88 54 = ld 4 := by rw [((mt_E_F hE60)).1 88 54 (by omega), (hFr26).1 88 54 (by omega), (show I18 88 54 = ld 4 from (hW20.2.2.2.1 4 (by omega)).trans (by repeat rw [sp_up_n _ _ (by omega)]))]
      refine yi_D_il (v := ld 4) rfl rfl r64 (fun _ _ => ?_)
      refine yi_D_run 1 (62, [(1, .inl (ld 4)), (0, .inr (.inr (some 82)))], [.inl 1, .inl (ld 4), .inl 54, .inr (.inr (some 88))], (I59, L, R, Y), 0, 0) (fun _ => rfl) ?_
      refine yi_D_iadd rfl ((ld 4) + 1) (yi_wn (by omega) (by omega)) ?_
      refine yi_D_is rfl (fun _ _ => ?_)
      show yi_D zi_Ms d zi_m98 k (64, [(1, .inl (ld 4)), (0, .inr (.inr (some 82)))], [], ((yi_u I59 88 54 ((ld 4) + 1)), L, R, Y), 0, 0) _
      generalize w66 : yi_u I59 88 54 ((ld 4) + 1) = I65
      have hf67 : 0 < I65 82 8 := by rw [← w66, yi_u_ne _ _ (by omega)]; exact hf62
      have he68 : I65 82 8 = _ := (show I65 82 8 = I59 82 8 by rw [← w66, yi_u_ne _ _ (by omega)]).trans he63
      refine yi_D_retv rfl ?_
      exact ⟨_, _, rfl, ⟨fun p k hp => by rw [← w66, yi_u_ne _ _ (by omega), ((mt_E_F hE60)).1 p k (by omega), (hFr26).1 p k (by omega), ← w19, yi_u_ne _ _ (by omega), hGn13 p k (by omega)], fun p k hp => rfl⟩, Or.inr ⟨_, hx58, hz37, he68⟩⟩
theorem q_readWishC {d : Nat} {I L : Nat → Nat → Int} {R : Nat → Nat → Option Nat} {Y : (Nat → Nat) × (Nat → Nat) × Nat} {K P V : Nat → Int} {te a : Nat} {ld : Nat → Int} {nm : Int → Int} (hW : mt_W I L R Y K P V te 50 ld nm) (hf : I 82 8 = 0) (hA : mt_A I te a) (cs : List (Int × Int)) (hd0 : 1 ≤ ld 0) (h6 : ld 6 < 0 → I 88 56 < 0) {gg : Nat → Int × Int} (hml : ml_S gg I ld cs) (hk : K a = 11) : yi_P zi_Ms d 105 [.inr (.inr (some 82))] (I, L, R, Y) (mt_QLC gg I L R Y K P V te (2, a, 0, [], ld, nm, cs) a) := by
  refine yi_P_of (M := zi_m105) rfl (fun d k => ?_)
  have hS := hW.1
  have ht := hW.2.1.1
  have ha := hA.2
  have hp := hW.2.1.2.1 a hA.2
  have hbd := hW.2.2.2.2.2.2.1
  have hc3 : I 88 56 < 0 → ld 6 < 0 := hW.2.2.2.2.1
  have hm := hml.1
  show yi_D zi_Ms d zi_m105 k (0, [(0, .inr (.inr (some 82)))], [], (I, L, R, Y), 0, 0) _
  refine yi_D_run 1 (1, [(0, .inr (.inr (some 82)))], [.inr (.inr (some 82))], (I, L, R, Y), 0, 0) (fun _ => rfl) ?_
  refine yi_D_gr (v := some 88) rfl rfl rfl (ym_S_at hS (j := 5) rfl).1 (fun _ => ?_)
  refine yi_D_run 1 (6, [(0, .inr (.inr (some 82)))], [.inl 55, .inr (.inr (some 88))], (I, L, R, Y), 0, 0) (fun _ => rfl) ?_
  refine yi_D_il (v := ld 5) rfl rfl (show I 88 55 = ld 5 from hW.2.2.2.1 5 (by omega)) (fun _ _ => ?_)
  refine yi_D_run 3 (11, [(1, .inl (ld 5)), (0, .inr (.inr (some 82)))], [.inl 6, .inl (ld 5)], (I, L, R, Y), 0, 0) (fun _ => rfl) ?_
  by_cases h1 : (ld 5) = 6
  · refine yi_D_if2 false rfl (yi_ne_f h1) ?_
    refine yi_D_run 2 (16, [(1, .inl (ld 5)), (0, .inr (.inr (some 82)))], [.inl 5, .inr (.inr (some 82))], (I, L, R, Y), 0, 0) (fun _ => rfl) ?_
    refine yi_D_callv rfl (q_wrong_z ⟨by omega, by omega⟩ hW hf hA) ?_
    rintro _ ⟨I2, rfl, hg3, he4⟩
    have hGw5 : mt_G I I2 := fun p k hp => hg3 p k (by omega)
    have hW6 := mt_W_t hW (mt_G_F hGw5)
    have hmc7 := mc_G hm hGw5
    have hz8 : 0 < sp_f P a 5 := mt_f_ne hW hA.2 (by omega)
    have hn9 : 0 < I2 82 8 := by rw [he4]; exact hz8
    have hx10 : sp_R K P V (2, a, 0, [], ld, nm, cs) (.inr (sp_f P a 5)) := sp_R_1 (by
      show sp_line K P V a ld nm cs = _
      first
      | (exfalso; omega)
      | (unfold sp_line; (repeat (first | rw [if_pos (by omega)] | rw [if_neg (by omega)])); unfold sp_wish; (repeat (first | rw [if_pos (by omega)] | rw [if_neg (by omega)])); done))
    show yi_D zi_Ms d zi_m105 k (19, [(1, .inl (ld 5)), (0, .inr (.inr (some 82)))], [], (I2, L, R, Y), 0, 0) _
    refine yi_D_retv rfl ?_
    exact ⟨_, _, rfl, ⟨fun p k hp => by rw [hGw5 p k (by omega)], fun p k hp => rfl⟩, Or.inr ⟨_, hx10, hz8, he4⟩⟩
  · refine yi_D_if2 true rfl (yi_ne_t h1) ?_
    refine yi_D_run 2 (22, [(1, .inl (ld 5)), (0, .inr (.inr (some 82)))], [.inr (.inr (some 82)), .inr (.inr (some 82))], (I, L, R, Y), 0, 0) (fun _ => rfl) ?_
    refine yi_D_gi (v := (a : Int)) rfl rfl rfl hA.1 (fun _ => ?_)
    refine yi_D_run 1 (26, [(1, .inl (ld 5)), (0, .inr (.inr (some 82)))], [.inl 1, .inl (a : Int), .inr (.inr (some 82))], (I, L, R, Y), 0, 0) (fun _ => rfl) ?_
    refine yi_D_iadd rfl ((a : Int) + 1) (yi_wn (by omega) (by omega)) ?_
    refine yi_D_pi rfl (fun _ => ?_)
    generalize w12 : yi_u I 82 7 ((a : Int) + 1) = I11
    have hGn13 : mt_G I I11 := fun p k hp => by rw [← w12, yi_u_ne _ _ (by omega)]
    have hW14 := mt_W_t hW (mt_G_F hGn13)
    have hmc15 := mc_G hm hGn13
    have hf16 : I11 82 8 = 0 := by rw [← w12, yi_u_ne _ _ (by omega)]; exact hf
    have hA17 : mt_A I11 te (a + 1) := ⟨by rw [← w12, yi_u_eq]; omega, mt_lt hW14.2.1 hA.2 (by omega)⟩
    refine yi_D_run 3 (34, [(1, .inl (ld 5)), (0, .inr (.inr (some 82)))], [.inl (ld 5), .inl 3, .inl 75], (I11, L, R, Y), 0, 0) (fun _ => rfl) ?_
    refine yi_D_imul rfl (3 * (ld 5)) (yi_wn (by omega) (by omega)) ?_
    refine yi_D_iadd rfl (75 + (3 * (ld 5))) (yi_wn (by omega) (by omega)) ?_
    refine yi_D_run 2 (38, [(2, .inl (75 + (3 * (ld 5)))), (1, .inl (ld 5)), (0, .inr (.inr (some 82)))], [.inr (.inr (some 82))], (I11, L, R, Y), 0, 0) (fun _ => rfl) ?_
    refine yi_D_gr (v := some 88) rfl rfl rfl (ym_S_at hS (j := 5) rfl).1 (fun _ => ?_)
    refine yi_D_run 4 (45, [(2, .inl (75 + (3 * (ld 5)))), (1, .inl (ld 5)), (0, .inr (.inr (some 82)))], [.inl (-1), .inl 2, .inr (.inr (some 82)), .inl (75 + (3 * (ld 5))), .inr (.inr (some 88))], (I11, L, R, Y), 0, 0) (fun _ => rfl) ?_
    refine yi_D_callv rfl (q_takeTold2_z (bt := (-1)) hW14 hf16 hA17) ?_
    rintro _ (⟨c18, c19, c20, I21, rfl, hGa22, hf23, hA24⟩ | ⟨c25, z29, I26, rfl, hGa27, he28⟩ | ⟨c30, z34, I31, rfl, hGa32, he33⟩ | ⟨c35, z39, I36, rfl, hGa37, he38⟩)
    · have hA24 : mt_A I21 te (a + 2) := hA24
      have hW40 := mt_W_t hW14 (mt_G_F hGa22)
      have hmc41 := mc_G hmc15 hGa22
      show yi_D zi_Ms d zi_m105 k (48, [(2, .inl (75 + (3 * (ld 5)))), (1, .inl (ld 5)), (0, .inr (.inr (some 82)))], [.inl (nm (V (a + 1)) - 8), .inl (75 + (3 * (ld 5))), .inr (.inr (some 88))], (I21, L, R, Y), 0, 0) _
      refine yi_D_is rfl (fun _ _ => ?_)
      generalize w43 : yi_u I21 88 ((75 + (3 * (ld 5))).toNat) (nm (V (a + 1)) - 8) = I42
      have hW44 := mt_W_w (i := 25 + 3 * (ld 5).toNat) (I' := I42) (nm (V (a + 1)) - 8) hW40 (fun h => absurd h (by omega)) (fun p k hp => by rw [← w43, yi_u_ne _ _ (by omega)]) (mt_bd hW40 (by omega) _)
      have hf45 : I42 82 8 = 0 := by rw [← w43, yi_u_ne _ _ (by omega)]; exact hf23
      have hA46 : mt_A I42 te (a + 2) := ⟨by rw [← w43, yi_u_ne _ _ (by omega)]; exact hA24.1, hA24.2⟩
      have hmc47 := mc_w (I' := I42) hmc41 (fun p k hp => by rw [← w43, yi_u_ne _ _ (by omega)])
      refine yi_D_run 1 (50, [(2, .inl (75 + (3 * (ld 5)))), (1, .inl (ld 5)), (0, .inr (.inr (some 82)))], [.inr (.inr (some 82))], (I42, L, R, Y), 0, 0) (fun _ => rfl) ?_
      refine yi_D_gr (v := some 88) rfl rfl rfl (ym_S_at hS (j := 5) rfl).1 (fun _ => ?_)
      refine yi_D_run 2 (55, [(2, .inl (75 + (3 * (ld 5)))), (1, .inl (ld 5)), (0, .inr (.inr (some 82)))], [.inl 1, .inl (75 + (3 * (ld 5))), .inr (.inr (some 88))], (I42, L, R, Y), 0, 0) (fun _ => rfl) ?_
      refine yi_D_iadd rfl ((75 + (3 * (ld 5))) + 1) (yi_wn (by omega) (by omega)) ?_
      refine yi_D_run 4 (62, [(2, .inl (75 + (3 * (ld 5)))), (1, .inl (ld 5)), (0, .inr (.inr (some 82)))], [.inl 99, .inl 0, .inl 8, .inr (.inr (some 82)), .inl ((75 + (3 * (ld 5))) + 1), .inr (.inr (some 88))], (I42, L, R, Y), 0, 0) (fun _ => rfl) ?_
      refine yi_D_callv rfl (q_takeAfter_z (lo := 0) (hi := 99) (by omega) (by omega) hW44 hf45 hA46) ?_
      rintro _ (⟨c48, c49, c50, I51, rfl, hGa52, hf53, hA54⟩ | ⟨c55, z59, I56, rfl, hGa57, he58⟩ | ⟨c60, z64, I61, rfl, hGa62, he63⟩ | ⟨c65, z69, I66, rfl, hGa67, he68⟩)
      · have c48 : K (a + 2) = 4 + 8 := c48
        have c49 : K (a + 3) = 2 := c49
        have c50 : 0 ≤ V (a + 3) ∧ V (a + 3) ≤ 99 := c50
        have hA54 : mt_A I51 te (a + 4) := hA54
        have hW70 := mt_W_t hW44 (mt_G_F hGa52)
        have hmc71 := mc_G hmc47 hGa52
        show yi_D zi_Ms d zi_m105 k (65, [(2, .inl (75 + (3 * (ld 5)))), (1, .inl (ld 5)), (0, .inr (.inr (some 82)))], [.inl (V (a + 3)), .inl ((75 + (3 * (ld 5))) + 1), .inr (.inr (some 88))], (I51, L, R, Y), 0, 0) _
        refine yi_D_is rfl (fun _ _ => ?_)
        generalize w73 : yi_u I51 88 (((75 + (3 * (ld 5))) + 1).toNat) (V (a + 3)) = I72
        have hW74 := mt_W_w (i := 26 + 3 * (ld 5).toNat) (I' := I72) (V (a + 3)) hW70 (fun h => absurd h (by omega)) (fun p k hp => by rw [← w73, yi_u_ne _ _ (by omega)]) (mt_bd hW70 (by omega) _)
        have hf75 : I72 82 8 = 0 := by rw [← w73, yi_u_ne _ _ (by omega)]; exact hf53
        have hA76 : mt_A I72 te (a + 4) := ⟨by rw [← w73, yi_u_ne _ _ (by omega)]; exact hA54.1, hA54.2⟩
        have hmc77 := mc_w (I' := I72) hmc71 (fun p k hp => by rw [← w73, yi_u_ne _ _ (by omega)])
        refine yi_D_run 1 (67, [(2, .inl (75 + (3 * (ld 5)))), (1, .inl (ld 5)), (0, .inr (.inr (some 82)))], [.inr (.inr (some 82))], (I72, L, R, Y), 0, 0) (fun _ => rfl) ?_
        refine yi_D_gr (v := some 88) rfl rfl rfl (ym_S_at hS (j := 5) rfl).1 (fun _ => ?_)
        refine yi_D_run 2 (72, [(2, .inl (75 + (3 * (ld 5)))), (1, .inl (ld 5)), (0, .inr (.inr (some 82)))], [.inl 2, .inl (75 + (3 * (ld 5))), .inr (.inr (some 88))], (I72, L, R, Y), 0, 0) (fun _ => rfl) ?_
        refine yi_D_iadd rfl ((75 + (3 * (ld 5))) + 2) (yi_wn (by omega) (by omega)) ?_
        refine yi_D_run 1 (74, [(2, .inl (75 + (3 * (ld 5)))), (1, .inl (ld 5)), (0, .inr (.inr (some 82)))], [.inr (.inr (some 82)), .inl ((75 + (3 * (ld 5))) + 2), .inr (.inr (some 88))], (I72, L, R, Y), 0, 0) (fun _ => rfl) ?_
        
        refine yi_D_gi (v := (cs.length : Int)) rfl rfl rfl hmc77.1 (fun _ => ?_)
        refine yi_D_is rfl (fun _ _ => ?_)
        generalize w79 : yi_u I72 88 (((75 + (3 * (ld 5))) + 2).toNat) (cs.length : Int) = I78
        have hW80 := mt_W_w (i := 27 + 3 * (ld 5).toNat) (I' := I78) (((cs.length : Nat) : Int)) hW74 (fun h => absurd h (by omega)) (fun p k hp => by rw [← w79, yi_u_ne _ _ (by omega)]) (mt_bd hW74 (by omega) _)
        have hf81 : I78 82 8 = 0 := by rw [← w79, yi_u_ne _ _ (by omega)]; exact hf75
        have hA82 : mt_A I78 te (a + 4) := ⟨by rw [← w79, yi_u_ne _ _ (by omega)]; exact hA76.1, hA76.2⟩
        have hmc83 := mc_w (I' := I78) hmc77 (fun p k hp => by rw [← w79, yi_u_ne _ _ (by omega)])
        refine yi_D_run 2 (80, [(2, .inl (75 + (3 * (ld 5)))), (1, .inl (ld 5)), (0, .inr (.inr (some 82)))], [.inl 0, .inr (.inr (some 82))], (I78, L, R, Y), 0, 0) (fun _ => rfl) ?_
        have hst84 : sp_R K P V (2, a, 0, [], ld, nm, cs) (.inl (3, a + 4, 0, [10, 21], (sp_up (sp_up (sp_up ld (25 + 3 * (ld 5).toNat) (nm (V (a + 1)) - 8)) (26 + 3 * (ld 5).toNat) (V (a + 3))) (27 + 3 * (ld 5).toNat) (cs.length : Nat)), nm, cs)) := sp_R_1 (by
          show sp_line K P V a ld nm cs = _
          unfold sp_line; (repeat (first | rw [if_pos (by omega)] | rw [if_neg (by omega)])); unfold sp_wish; (repeat (first | rw [if_pos (by omega)] | rw [if_neg (by omega)])))
        refine yi_D_callv rfl (q_readFormulaC 0 [21] cs hW80 hf81 hA82 (by omega) hmc83) ?_
        rintro _ ⟨I85, rfl, hFr86, (⟨a87, cs88, hR89, lt90, hf91, hA92, hmc93, hwf94⟩ | ⟨f95, hR96, hz97, he98⟩)⟩
        · have hW99 := mt_W_t hW80 hFr86
          have hl5 : (sp_up (sp_up (sp_up ld (25 + 3 * (ld 5).toNat) (nm (V (a + 1)) - 8)) (26 + 3 * (ld 5).toNat) (V (a + 3))) (27 + 3 * (ld 5).toNat) (cs.length : Nat)) 5 = ld 5 := by repeat rw [sp_up_n _ _ (by omega)]
          have hR100 : sp_R K P V (2, a, 0, [], ld, nm, cs) (.inl (1, a87, 0, [], sp_up (sp_up (sp_up (sp_up ld (25 + 3 * (ld 5).toNat) (nm (V (a + 1)) - 8)) (26 + 3 * (ld 5).toNat) (V (a + 3))) (27 + 3 * (ld 5).toNat) (cs.length : Nat)) 5 (ld 5 + 1), nm, cs88 ++ [(0, 0)])) := sp_R_s (sp_R_t hst84 hR89) (sp_st21 hl5)
          have hwf101 : wfX pF (13) cs cs88 := wfX_m hwf94 (by omega)
          show yi_D zi_Ms d zi_m105 k (83, [(2, .inl (75 + (3 * (ld 5)))), (1, .inl (ld 5)), (0, .inr (.inr (some 82)))], [], (I85, L, R, Y), 0, 0) _
          refine yi_D_run 3 (86, [(2, .inl (75 + (3 * (ld 5)))), (1, .inl (ld 5)), (0, .inr (.inr (some 82)))], [.inl 0, .inl 0, .inr (.inr (some 82))], (I85, L, R, Y), 0, 0) (fun _ => rfl) ?_
          refine yi_D_callv rfl (q_emitC hW99 hmc93) ?_
          rintro _ ⟨I102, rfl, hE103, hmc104⟩
          have hW105 := mt_W_t hW99 (mt_E_F hE103)
          have hf106 : I102 82 8 = 0 := (hE103.1 82 8 (by omega)).trans hf91
          have hA107 : mt_A I102 te a87 := ⟨(hE103.1 82 7 (by omega)).trans hA92.1, hA92.2⟩
          show yi_D zi_Ms d zi_m105 k (89, [(2, .inl (75 + (3 * (ld 5)))), (1, .inl (ld 5)), (0, .inr (.inr (some 82)))], [], (I102, L, R, Y), 0, 0) _
          refine yi_D_run 1 (90, [(2, .inl (75 + (3 * (ld 5)))), (1, .inl (ld 5)), (0, .inr (.inr (some 82)))], [.inr (.inr (some 82))], (I102, L, R, Y), 0, 0) (fun _ => rfl) ?_
          refine yi_D_gr (v := some 88) rfl rfl rfl (ym_S_at hS (j := 5) rfl).1 (fun _ => ?_)
          refine yi_D_run 2 (96, [(2, .inl (75 + (3 * (ld 5)))), (1, .inl (ld 5)), (0, .inr (.inr (some 82)))], [.inl 55, .inr (.inr (some 88)), .inl 55, .inr (.inr (some 88))], (I102, L, R, Y), 0, 0) (fun _ => rfl) ?_
          have r108 : I102 88 55 = ld 5 := by rw [((mt_E_F hE103)).1 88 55 (by omega), (hFr86).1 88 55 (by omega), (show I78 88 55 = ld 5 from (hW80.2.2.2.1 5 (by omega)).trans (by repeat rw [sp_up_n _ _ (by omega)]))]
          refine yi_D_il (v := ld 5) rfl rfl r108 (fun _ _ => ?_)
          refine yi_D_run 1 (98, [(2, .inl (75 + (3 * (ld 5)))), (1, .inl (ld 5)), (0, .inr (.inr (some 82)))], [.inl 1, .inl (ld 5), .inl 55, .inr (.inr (some 88))], (I102, L, R, Y), 0, 0) (fun _ => rfl) ?_
          refine yi_D_iadd rfl ((ld 5) + 1) (yi_wn (by omega) (by omega)) ?_
          refine yi_D_is rfl (fun _ _ => ?_)
          show yi_D zi_Ms d zi_m105 k (100, [(2, .inl (75 + (3 * (ld 5)))), (1, .inl (ld 5)), (0, .inr (.inr (some 82)))], [], ((yi_u I102 88 55 ((ld 5) + 1)), L, R, Y), 0, 0) _
          generalize w110 : yi_u I102 88 55 ((ld 5) + 1) = I109
          have hb112 : ((0 ≤ (sp_up ((sp_up (sp_up (sp_up ld (25 + 3 * (ld 5).toNat) (nm (V (a + 1)) - 8)) (26 + 3 * (ld 5).toNat) (V (a + 3))) (27 + 3 * (ld 5).toNat) (((cs.length : Nat) : Int)))) 5 (ld 5 + 1)) 0 ∧ (sp_up ((sp_up (sp_up (sp_up ld (25 + 3 * (ld 5).toNat) (nm (V (a + 1)) - 8)) (26 + 3 * (ld 5).toNat) (V (a + 3))) (27 + 3 * (ld 5).toNat) (((cs.length : Nat) : Int)))) 5 (ld 5 + 1)) 0 ≤ 6) ∧ (0 ≤ (sp_up ((sp_up (sp_up (sp_up ld (25 + 3 * (ld 5).toNat) (nm (V (a + 1)) - 8)) (26 + 3 * (ld 5).toNat) (V (a + 3))) (27 + 3 * (ld 5).toNat) (((cs.length : Nat) : Int)))) 5 (ld 5 + 1)) 1 ∧ (sp_up ((sp_up (sp_up (sp_up ld (25 + 3 * (ld 5).toNat) (nm (V (a + 1)) - 8)) (26 + 3 * (ld 5).toNat) (V (a + 3))) (27 + 3 * (ld 5).toNat) (((cs.length : Nat) : Int)))) 5 (ld 5 + 1)) 1 ≤ 4) ∧ (0 ≤ (sp_up ((sp_up (sp_up (sp_up ld (25 + 3 * (ld 5).toNat) (nm (V (a + 1)) - 8)) (26 + 3 * (ld 5).toNat) (V (a + 3))) (27 + 3 * (ld 5).toNat) (((cs.length : Nat) : Int)))) 5 (ld 5 + 1)) 2 ∧ (sp_up ((sp_up (sp_up (sp_up ld (25 + 3 * (ld 5).toNat) (nm (V (a + 1)) - 8)) (26 + 3 * (ld 5).toNat) (V (a + 3))) (27 + 3 * (ld 5).toNat) (((cs.length : Nat) : Int)))) 5 (ld 5 + 1)) 2 ≤ 4) ∧ (0 ≤ (sp_up ((sp_up (sp_up (sp_up ld (25 + 3 * (ld 5).toNat) (nm (V (a + 1)) - 8)) (26 + 3 * (ld 5).toNat) (V (a + 3))) (27 + 3 * (ld 5).toNat) (((cs.length : Nat) : Int)))) 5 (ld 5 + 1)) 3 ∧ (sp_up ((sp_up (sp_up (sp_up ld (25 + 3 * (ld 5).toNat) (nm (V (a + 1)) - 8)) (26 + 3 * (ld 5).toNat) (V (a + 3))) (27 + 3 * (ld 5).toNat) (((cs.length : Nat) : Int)))) 5 (ld 5 + 1)) 3 ≤ 5) ∧ (0 ≤ (sp_up ((sp_up (sp_up (sp_up ld (25 + 3 * (ld 5).toNat) (nm (V (a + 1)) - 8)) (26 + 3 * (ld 5).toNat) (V (a + 3))) (27 + 3 * (ld 5).toNat) (((cs.length : Nat) : Int)))) 5 (ld 5 + 1)) 4 ∧ (sp_up ((sp_up (sp_up (sp_up ld (25 + 3 * (ld 5).toNat) (nm (V (a + 1)) - 8)) (26 + 3 * (ld 5).toNat) (V (a + 3))) (27 + 3 * (ld 5).toNat) (((cs.length : Nat) : Int)))) 5 (ld 5 + 1)) 4 ≤ 4) ∧ (0 ≤ (sp_up ((sp_up (sp_up (sp_up ld (25 + 3 * (ld 5).toNat) (nm (V (a + 1)) - 8)) (26 + 3 * (ld 5).toNat) (V (a + 3))) (27 + 3 * (ld 5).toNat) (((cs.length : Nat) : Int)))) 5 (ld 5 + 1)) 5 ∧ (sp_up ((sp_up (sp_up (sp_up ld (25 + 3 * (ld 5).toNat) (nm (V (a + 1)) - 8)) (26 + 3 * (ld 5).toNat) (V (a + 3))) (27 + 3 * (ld 5).toNat) (((cs.length : Nat) : Int)))) 5 (ld 5 + 1)) 5 ≤ 6)) := by
            rw [sp_up_e]
            repeat rw [sp_up_n _ _ (by omega)]
            omega
          have hW111 := mt_W_w (i := 5) (I' := I109) (ld 5 + 1) hW105 (fun _ => by rw [← w110, show 55 = 50 + (5) by omega, yi_u_eq]; first | done | omega) (fun p k hp => by rw [← w110, yi_u_ne _ _ (by omega)]) hb112
          have hf113 : I109 82 8 = 0 := by rw [← w110, yi_u_ne _ _ (by omega)]; exact hf106
          have hA114 : mt_A I109 te a87 := ⟨by rw [← w110, yi_u_ne _ _ (by omega)]; exact hA107.1, hA107.2⟩
          have hmc115 := mc_w (I' := I109) hmc104 (fun p k hp => by rw [← w110, yi_u_ne _ _ (by omega)])
          refine yi_D_retv rfl ?_
          have hstep := hR100
          have hml2 : ml_S gg I109 (sp_up (sp_up (sp_up (sp_up ld (25 + 3 * (ld 5).toNat) (nm (V (a + 1)) - 8)) (26 + 3 * (ld 5).toNat) (V (a + 3))) (27 + 3 * (ld 5).toNat) (((cs.length : Nat) : Int))) (5) (ld 5 + 1)) (cs88 ++ [(0, 0)]) := ml_wish (who := nm (V (a + 1)) - 8) (cn := V (a + 3)) ⟨by omega, by omega⟩ hml (n := (ld 5).toNat) (by omega) (by omega) (by omega) hmc115 hwf101 (by rw [← w110, yi_u_ne _ _ (by omega), ((mt_E_F hE103)).1 88 (75 + 3 * (ld 5).toNat) (by omega), (hFr86).1 88 (75 + 3 * (ld 5).toNat) (by omega), ← w79, yi_u_ne _ _ (by omega), ← w73, yi_u_ne _ _ (by omega), hGa52 88 (75 + 3 * (ld 5).toNat) (by omega), ← w43, show 75 + 3 * (ld 5).toNat = ((75 + (3 * (ld 5))).toNat) by omega, yi_u_eq]) (by rw [← w110, yi_u_ne _ _ (by omega), ((mt_E_F hE103)).1 88 (76 + 3 * (ld 5).toNat) (by omega), (hFr86).1 88 (76 + 3 * (ld 5).toNat) (by omega), ← w79, yi_u_ne _ _ (by omega), ← w73, show 76 + 3 * (ld 5).toNat = (((75 + (3 * (ld 5))) + 1).toNat) by omega, yi_u_eq]) (by rw [← w110, yi_u_ne _ _ (by omega), ((mt_E_F hE103)).1 88 (77 + 3 * (ld 5).toNat) (by omega), (hFr86).1 88 (77 + 3 * (ld 5).toNat) (by omega), ← w79, show 77 + 3 * (ld 5).toNat = (((75 + (3 * (ld 5))) + 2).toNat) by omega, yi_u_eq]) (fun k hk h1 h2 h3 => by rw [← w110, yi_u_ne _ _ (by omega), ((mt_E_F hE103)).1 88 k (by omega), (hFr86).1 88 k (by omega), ← w79, yi_u_ne _ _ (by omega), ← w73, yi_u_ne _ _ (by omega), hGa52 88 k (by omega), ← w43, yi_u_ne _ _ (by omega), hGa22 88 k (by omega), hGn13 88 k (by omega)]) (by rw [show (((ld 5).toNat : Nat) : Int) = ld 5 by omega])
          exact ⟨_, _, rfl, ⟨fun p k hp => by rw [← w110, yi_u_ne _ _ (by omega), ((mt_E_F hE103)).1 p k (by omega), (hFr86).1 p k (by omega), ← w79, yi_u_ne _ _ (by omega), ← w73, yi_u_ne _ _ (by omega), hGa52 p k (by omega), ← w43, yi_u_ne _ _ (by omega), hGa22 p k (by omega), hGn13 p k (by omega)], fun p k hp => rfl⟩, Or.inl ⟨_, _, _, _, hstep, by omega, hf113, hA114, hW111, (by (repeat rw [sp_up_n _ _ (by omega)]); exact hd0), (fun x => by rw [← w110, yi_u_ne _ _ (by omega), ((mt_E_F hE103)).1 88 56 (by omega), (hFr86).1 88 56 (by omega), ← w79, yi_u_ne _ _ (by omega), ← w73, yi_u_ne _ _ (by omega), hGa52 88 56 (by omega), ← w43, yi_u_ne _ _ (by omega), hGa22 88 56 (by omega), hGn13 88 56 (by omega)]; exact h6 (by (repeat rw [sp_up_n _ _ (by omega)] at x); exact x)), hml2⟩⟩
        · have hW116 := mt_W_t hW80 hFr86
          have hn117 : 0 < I85 82 8 := by rw [he98]; exact hz97
          have hx118 : sp_R K P V (2, a, 0, [], ld, nm, cs) (.inr f95) := sp_R_t hst84 hR96
          show yi_D zi_Ms d zi_m105 k (83, [(2, .inl (75 + (3 * (ld 5)))), (1, .inl (ld 5)), (0, .inr (.inr (some 82)))], [], (I85, L, R, Y), 0, 0) _
          refine yi_D_run 3 (86, [(2, .inl (75 + (3 * (ld 5)))), (1, .inl (ld 5)), (0, .inr (.inr (some 82)))], [.inl 0, .inl 0, .inr (.inr (some 82))], (I85, L, R, Y), 0, 0) (fun _ => rfl) ?_
          refine yi_D_callv rfl (q_emit hW116) ?_
          rintro _ ⟨I119, rfl, hE120⟩
          have hW121 := mt_W_t hW116 (mt_E_F hE120)
          have hf122 : 0 < I119 82 8 := by rw [hE120.1 82 8 (by omega)]; exact hn117
          have he123 := (hE120.1 82 8 (by omega)).trans he98
          show yi_D zi_Ms d zi_m105 k (89, [(2, .inl (75 + (3 * (ld 5)))), (1, .inl (ld 5)), (0, .inr (.inr (some 82)))], [], (I119, L, R, Y), 0, 0) _
          refine yi_D_run 1 (90, [(2, .inl (75 + (3 * (ld 5)))), (1, .inl (ld 5)), (0, .inr (.inr (some 82)))], [.inr (.inr (some 82))], (I119, L, R, Y), 0, 0) (fun _ => rfl) ?_
          refine yi_D_gr (v := some 88) rfl rfl rfl (ym_S_at hS (j := 5) rfl).1 (fun _ => ?_)
          refine yi_D_run 2 (96, [(2, .inl (75 + (3 * (ld 5)))), (1, .inl (ld 5)), (0, .inr (.inr (some 82)))], [.inl 55, .inr (.inr (some 88)), .inl 55, .inr (.inr (some 88))], (I119, L, R, Y), 0, 0) (fun _ => rfl) ?_
          have r124 : I119 88 55 = ld 5 := by rw [((mt_E_F hE120)).1 88 55 (by omega), (hFr86).1 88 55 (by omega), (show I78 88 55 = ld 5 from (hW80.2.2.2.1 5 (by omega)).trans (by repeat rw [sp_up_n _ _ (by omega)]))]
          refine yi_D_il (v := ld 5) rfl rfl r124 (fun _ _ => ?_)
          refine yi_D_run 1 (98, [(2, .inl (75 + (3 * (ld 5)))), (1, .inl (ld 5)), (0, .inr (.inr (some 82)))], [.inl 1, .inl (ld 5), .inl 55, .inr (.inr (some 88))], (I119, L, R, Y), 0, 0) (fun _ => rfl) ?_
          refine yi_D_iadd rfl ((ld 5) + 1) (yi_wn (by omega) (by omega)) ?_
          refine yi_D_is rfl (fun _ _ => ?_)
          show yi_D zi_Ms d zi_m105 k (100, [(2, .inl (75 + (3 * (ld 5)))), (1, .inl (ld 5)), (0, .inr (.inr (some 82)))], [], ((yi_u I119 88 55 ((ld 5) + 1)), L, R, Y), 0, 0) _
          generalize w126 : yi_u I119 88 55 ((ld 5) + 1) = I125
          have hf127 : 0 < I125 82 8 := by rw [← w126, yi_u_ne _ _ (by omega)]; exact hf122
          have he128 : I125 82 8 = _ := (show I125 82 8 = I119 82 8 by rw [← w126, yi_u_ne _ _ (by omega)]).trans he123
          refine yi_D_retv rfl ?_
          exact ⟨_, _, rfl, ⟨fun p k hp => by rw [← w126, yi_u_ne _ _ (by omega), ((mt_E_F hE120)).1 p k (by omega), (hFr86).1 p k (by omega), ← w79, yi_u_ne _ _ (by omega), ← w73, yi_u_ne _ _ (by omega), hGa52 p k (by omega), ← w43, yi_u_ne _ _ (by omega), hGa22 p k (by omega), hGn13 p k (by omega)], fun p k hp => rfl⟩, Or.inr ⟨_, hx118, hz97, he128⟩⟩
      · have c55 : ¬ K (a + 2) = 4 + 8 := c55
        have hW129 := mt_W_t hW44 (mt_G_F hGa57)
        have hmc130 := mc_G hmc47 hGa57
        have hz131 : 0 < sp_f P (a + 2) 1 := mt_f_ne hW44 hA46.2 (by omega)
        have hn132 : 0 < I56 82 8 := by rw [he58]; exact hz131
        have hx133 : sp_R K P V (2, a, 0, [], ld, nm, cs) (.inr (sp_f P (a + 2) 1)) := sp_R_1 (by
          show sp_line K P V a ld nm cs = _
          first
          | (exfalso; omega)
          | (unfold sp_line; (repeat (first | rw [if_pos (by omega)] | rw [if_neg (by omega)])); unfold sp_wish; (repeat (first | rw [if_pos (by omega)] | rw [if_neg (by omega)])); done))
        show yi_D zi_Ms d zi_m105 k (65, [(2, .inl (75 + (3 * (ld 5)))), (1, .inl (ld 5)), (0, .inr (.inr (some 82)))], [.inl z59, .inl ((75 + (3 * (ld 5))) + 1), .inr (.inr (some 88))], (I56, L, R, Y), 0, 0) _
        refine yi_D_is rfl (fun _ _ => ?_)
        generalize w135 : yi_u I56 88 (((75 + (3 * (ld 5))) + 1).toNat) z59 = I134
        have hW136 := mt_W_w (i := 26 + 3 * (ld 5).toNat) (I' := I134) (z59) hW129 (fun h => absurd h (by omega)) (fun p k hp => by rw [← w135, yi_u_ne _ _ (by omega)]) (mt_bd hW129 (by omega) _)
        have hf137 : 0 < I134 82 8 := by rw [← w135, yi_u_ne _ _ (by omega)]; exact hn132
        have he138 : I134 82 8 = _ := (show I134 82 8 = I56 82 8 by rw [← w135, yi_u_ne _ _ (by omega)]).trans he58
        refine yi_D_run 1 (67, [(2, .inl (75 + (3 * (ld 5)))), (1, .inl (ld 5)), (0, .inr (.inr (some 82)))], [.inr (.inr (some 82))], (I134, L, R, Y), 0, 0) (fun _ => rfl) ?_
        refine yi_D_gr (v := some 88) rfl rfl rfl (ym_S_at hS (j := 5) rfl).1 (fun _ => ?_)
        refine yi_D_run 2 (72, [(2, .inl (75 + (3 * (ld 5)))), (1, .inl (ld 5)), (0, .inr (.inr (some 82)))], [.inl 2, .inl (75 + (3 * (ld 5))), .inr (.inr (some 88))], (I134, L, R, Y), 0, 0) (fun _ => rfl) ?_
        refine yi_D_iadd rfl ((75 + (3 * (ld 5))) + 2) (yi_wn (by omega) (by omega)) ?_
        refine yi_D_run 1 (74, [(2, .inl (75 + (3 * (ld 5)))), (1, .inl (ld 5)), (0, .inr (.inr (some 82)))], [.inr (.inr (some 82)), .inl ((75 + (3 * (ld 5))) + 2), .inr (.inr (some 88))], (I134, L, R, Y), 0, 0) (fun _ => rfl) ?_
        
        have r139 : I134 82 13 = I 82 13 := by rw [← w135, yi_u_ne _ _ (by omega), hGa57 82 13 (by omega), ← w43, yi_u_ne _ _ (by omega), hGa22 82 13 (by omega), hGn13 82 13 (by omega)]
        refine yi_D_gi (v := I 82 13) rfl rfl rfl r139 (fun _ => ?_)
        refine yi_D_is rfl (fun _ _ => ?_)
        generalize w141 : yi_u I134 88 (((75 + (3 * (ld 5))) + 2).toNat) (I 82 13) = I140
        have hW142 := mt_W_w (i := 27 + 3 * (ld 5).toNat) (I' := I140) (I 82 13) hW136 (fun h => absurd h (by omega)) (fun p k hp => by rw [← w141, yi_u_ne _ _ (by omega)]) (mt_bd hW136 (by omega) _)
        have hf143 : 0 < I140 82 8 := by rw [← w141, yi_u_ne _ _ (by omega)]; exact hf137
        have he144 : I140 82 8 = _ := (show I140 82 8 = I134 82 8 by rw [← w141, yi_u_ne _ _ (by omega)]).trans he138
        refine yi_D_run 2 (80, [(2, .inl (75 + (3 * (ld 5)))), (1, .inl (ld 5)), (0, .inr (.inr (some 82)))], [.inl 0, .inr (.inr (some 82))], (I140, L, R, Y), 0, 0) (fun _ => rfl) ?_
        refine yi_D_callv rfl (q_readFormula_f hW142 hf143) ?_
        rintro _ ⟨I145, rfl, hGa146, hq147⟩
        have hW148 := mt_W_t hW142 (mt_G_F hGa146)
        have hf149 : 0 < I145 82 8 := by rw [hq147]; exact hf143
        have he150 := hq147.trans he144
        show yi_D zi_Ms d zi_m105 k (83, [(2, .inl (75 + (3 * (ld 5)))), (1, .inl (ld 5)), (0, .inr (.inr (some 82)))], [], (I145, L, R, Y), 0, 0) _
        refine yi_D_run 3 (86, [(2, .inl (75 + (3 * (ld 5)))), (1, .inl (ld 5)), (0, .inr (.inr (some 82)))], [.inl 0, .inl 0, .inr (.inr (some 82))], (I145, L, R, Y), 0, 0) (fun _ => rfl) ?_
        refine yi_D_callv rfl (q_emit hW148) ?_
        rintro _ ⟨I151, rfl, hE152⟩
        have hW153 := mt_W_t hW148 (mt_E_F hE152)
        have hf154 : 0 < I151 82 8 := by rw [hE152.1 82 8 (by omega)]; exact hf149
        have he155 := (hE152.1 82 8 (by omega)).trans he150
        show yi_D zi_Ms d zi_m105 k (89, [(2, .inl (75 + (3 * (ld 5)))), (1, .inl (ld 5)), (0, .inr (.inr (some 82)))], [], (I151, L, R, Y), 0, 0) _
        refine yi_D_run 1 (90, [(2, .inl (75 + (3 * (ld 5)))), (1, .inl (ld 5)), (0, .inr (.inr (some 82)))], [.inr (.inr (some 82))], (I151, L, R, Y), 0, 0) (fun _ => rfl) ?_
        refine yi_D_gr (v := some 88) rfl rfl rfl (ym_S_at hS (j := 5) rfl).1 (fun _ => ?_)
        refine yi_D_run 2 (96, [(2, .inl (75 + (3 * (ld 5)))), (1, .inl (ld 5)), (0, .inr (.inr (some 82)))], [.inl 55, .inr (.inr (some 88)), .inl 55, .inr (.inr (some 88))], (I151, L, R, Y), 0, 0) (fun _ => rfl) ?_
        have r156 : I151 88 55 = ld 5 := by rw [((mt_E_F hE152)).1 88 55 (by omega), hGa146 88 55 (by omega), (show I140 88 55 = ld 5 from (hW142.2.2.2.1 5 (by omega)).trans (by repeat rw [sp_up_n _ _ (by omega)]))]
        refine yi_D_il (v := ld 5) rfl rfl r156 (fun _ _ => ?_)
        refine yi_D_run 1 (98, [(2, .inl (75 + (3 * (ld 5)))), (1, .inl (ld 5)), (0, .inr (.inr (some 82)))], [.inl 1, .inl (ld 5), .inl 55, .inr (.inr (some 88))], (I151, L, R, Y), 0, 0) (fun _ => rfl) ?_
        refine yi_D_iadd rfl ((ld 5) + 1) (yi_wn (by omega) (by omega)) ?_
        refine yi_D_is rfl (fun _ _ => ?_)
        show yi_D zi_Ms d zi_m105 k (100, [(2, .inl (75 + (3 * (ld 5)))), (1, .inl (ld 5)), (0, .inr (.inr (some 82)))], [], ((yi_u I151 88 55 ((ld 5) + 1)), L, R, Y), 0, 0) _
        generalize w158 : yi_u I151 88 55 ((ld 5) + 1) = I157
        have hf159 : 0 < I157 82 8 := by rw [← w158, yi_u_ne _ _ (by omega)]; exact hf154
        have he160 : I157 82 8 = _ := (show I157 82 8 = I151 82 8 by rw [← w158, yi_u_ne _ _ (by omega)]).trans he155
        refine yi_D_retv rfl ?_
        exact ⟨_, _, rfl, ⟨fun p k hp => by rw [← w158, yi_u_ne _ _ (by omega), ((mt_E_F hE152)).1 p k (by omega), hGa146 p k (by omega), ← w141, yi_u_ne _ _ (by omega), ← w135, yi_u_ne _ _ (by omega), hGa57 p k (by omega), ← w43, yi_u_ne _ _ (by omega), hGa22 p k (by omega), hGn13 p k (by omega)], fun p k hp => rfl⟩, Or.inr ⟨_, hx133, hz131, he160⟩⟩
      · have c60 : K (a + 2) = 4 + 8 ∧ ¬ K (a + 3) = 2 := c60
        have hW161 := mt_W_t hW44 (mt_G_F hGa62)
        have hmc162 := mc_G hmc47 hGa62
        have hA163 : mt_A I42 te (a + 2) ∨ True := Or.inr trivial
        have hz164 : 0 < sp_f P (a + 3) 1 := mt_f_ne hW44 (mt_lt hW44.2.1 hA46.2 (by omega)) (by omega)
        have hn165 : 0 < I61 82 8 := by rw [he63]; exact hz164
        have hx166 : sp_R K P V (2, a, 0, [], ld, nm, cs) (.inr (sp_f P (a + 3) 1)) := sp_R_1 (by
          show sp_line K P V a ld nm cs = _
          first
          | (exfalso; omega)
          | (unfold sp_line; (repeat (first | rw [if_pos (by omega)] | rw [if_neg (by omega)])); unfold sp_wish; (repeat (first | rw [if_pos (by omega)] | rw [if_neg (by omega)])); done))
        show yi_D zi_Ms d zi_m105 k (65, [(2, .inl (75 + (3 * (ld 5)))), (1, .inl (ld 5)), (0, .inr (.inr (some 82)))], [.inl z64, .inl ((75 + (3 * (ld 5))) + 1), .inr (.inr (some 88))], (I61, L, R, Y), 0, 0) _
        refine yi_D_is rfl (fun _ _ => ?_)
        generalize w168 : yi_u I61 88 (((75 + (3 * (ld 5))) + 1).toNat) z64 = I167
        have hW169 := mt_W_w (i := 26 + 3 * (ld 5).toNat) (I' := I167) (z64) hW161 (fun h => absurd h (by omega)) (fun p k hp => by rw [← w168, yi_u_ne _ _ (by omega)]) (mt_bd hW161 (by omega) _)
        have hf170 : 0 < I167 82 8 := by rw [← w168, yi_u_ne _ _ (by omega)]; exact hn165
        have he171 : I167 82 8 = _ := (show I167 82 8 = I61 82 8 by rw [← w168, yi_u_ne _ _ (by omega)]).trans he63
        refine yi_D_run 1 (67, [(2, .inl (75 + (3 * (ld 5)))), (1, .inl (ld 5)), (0, .inr (.inr (some 82)))], [.inr (.inr (some 82))], (I167, L, R, Y), 0, 0) (fun _ => rfl) ?_
        refine yi_D_gr (v := some 88) rfl rfl rfl (ym_S_at hS (j := 5) rfl).1 (fun _ => ?_)
        refine yi_D_run 2 (72, [(2, .inl (75 + (3 * (ld 5)))), (1, .inl (ld 5)), (0, .inr (.inr (some 82)))], [.inl 2, .inl (75 + (3 * (ld 5))), .inr (.inr (some 88))], (I167, L, R, Y), 0, 0) (fun _ => rfl) ?_
        refine yi_D_iadd rfl ((75 + (3 * (ld 5))) + 2) (yi_wn (by omega) (by omega)) ?_
        refine yi_D_run 1 (74, [(2, .inl (75 + (3 * (ld 5)))), (1, .inl (ld 5)), (0, .inr (.inr (some 82)))], [.inr (.inr (some 82)), .inl ((75 + (3 * (ld 5))) + 2), .inr (.inr (some 88))], (I167, L, R, Y), 0, 0) (fun _ => rfl) ?_
        
        have r172 : I167 82 13 = I 82 13 := by rw [← w168, yi_u_ne _ _ (by omega), hGa62 82 13 (by omega), ← w43, yi_u_ne _ _ (by omega), hGa22 82 13 (by omega), hGn13 82 13 (by omega)]
        refine yi_D_gi (v := I 82 13) rfl rfl rfl r172 (fun _ => ?_)
        refine yi_D_is rfl (fun _ _ => ?_)
        generalize w174 : yi_u I167 88 (((75 + (3 * (ld 5))) + 2).toNat) (I 82 13) = I173
        have hW175 := mt_W_w (i := 27 + 3 * (ld 5).toNat) (I' := I173) (I 82 13) hW169 (fun h => absurd h (by omega)) (fun p k hp => by rw [← w174, yi_u_ne _ _ (by omega)]) (mt_bd hW169 (by omega) _)
        have hf176 : 0 < I173 82 8 := by rw [← w174, yi_u_ne _ _ (by omega)]; exact hf170
        have he177 : I173 82 8 = _ := (show I173 82 8 = I167 82 8 by rw [← w174, yi_u_ne _ _ (by omega)]).trans he171
        refine yi_D_run 2 (80, [(2, .inl (75 + (3 * (ld 5)))), (1, .inl (ld 5)), (0, .inr (.inr (some 82)))], [.inl 0, .inr (.inr (some 82))], (I173, L, R, Y), 0, 0) (fun _ => rfl) ?_
        refine yi_D_callv rfl (q_readFormula_f hW175 hf176) ?_
        rintro _ ⟨I178, rfl, hGa179, hq180⟩
        have hW181 := mt_W_t hW175 (mt_G_F hGa179)
        have hf182 : 0 < I178 82 8 := by rw [hq180]; exact hf176
        have he183 := hq180.trans he177
        show yi_D zi_Ms d zi_m105 k (83, [(2, .inl (75 + (3 * (ld 5)))), (1, .inl (ld 5)), (0, .inr (.inr (some 82)))], [], (I178, L, R, Y), 0, 0) _
        refine yi_D_run 3 (86, [(2, .inl (75 + (3 * (ld 5)))), (1, .inl (ld 5)), (0, .inr (.inr (some 82)))], [.inl 0, .inl 0, .inr (.inr (some 82))], (I178, L, R, Y), 0, 0) (fun _ => rfl) ?_
        refine yi_D_callv rfl (q_emit hW181) ?_
        rintro _ ⟨I184, rfl, hE185⟩
        have hW186 := mt_W_t hW181 (mt_E_F hE185)
        have hf187 : 0 < I184 82 8 := by rw [hE185.1 82 8 (by omega)]; exact hf182
        have he188 := (hE185.1 82 8 (by omega)).trans he183
        show yi_D zi_Ms d zi_m105 k (89, [(2, .inl (75 + (3 * (ld 5)))), (1, .inl (ld 5)), (0, .inr (.inr (some 82)))], [], (I184, L, R, Y), 0, 0) _
        refine yi_D_run 1 (90, [(2, .inl (75 + (3 * (ld 5)))), (1, .inl (ld 5)), (0, .inr (.inr (some 82)))], [.inr (.inr (some 82))], (I184, L, R, Y), 0, 0) (fun _ => rfl) ?_
        refine yi_D_gr (v := some 88) rfl rfl rfl (ym_S_at hS (j := 5) rfl).1 (fun _ => ?_)
        refine yi_D_run 2 (96, [(2, .inl (75 + (3 * (ld 5)))), (1, .inl (ld 5)), (0, .inr (.inr (some 82)))], [.inl 55, .inr (.inr (some 88)), .inl 55, .inr (.inr (some 88))], (I184, L, R, Y), 0, 0) (fun _ => rfl) ?_
        have r189 : I184 88 55 = ld 5 := by rw [((mt_E_F hE185)).1 88 55 (by omega), hGa179 88 55 (by omega), (show I173 88 55 = ld 5 from (hW175.2.2.2.1 5 (by omega)).trans (by repeat rw [sp_up_n _ _ (by omega)]))]
        refine yi_D_il (v := ld 5) rfl rfl r189 (fun _ _ => ?_)
        refine yi_D_run 1 (98, [(2, .inl (75 + (3 * (ld 5)))), (1, .inl (ld 5)), (0, .inr (.inr (some 82)))], [.inl 1, .inl (ld 5), .inl 55, .inr (.inr (some 88))], (I184, L, R, Y), 0, 0) (fun _ => rfl) ?_
        refine yi_D_iadd rfl ((ld 5) + 1) (yi_wn (by omega) (by omega)) ?_
        refine yi_D_is rfl (fun _ _ => ?_)
        show yi_D zi_Ms d zi_m105 k (100, [(2, .inl (75 + (3 * (ld 5)))), (1, .inl (ld 5)), (0, .inr (.inr (some 82)))], [], ((yi_u I184 88 55 ((ld 5) + 1)), L, R, Y), 0, 0) _
        generalize w191 : yi_u I184 88 55 ((ld 5) + 1) = I190
        have hf192 : 0 < I190 82 8 := by rw [← w191, yi_u_ne _ _ (by omega)]; exact hf187
        have he193 : I190 82 8 = _ := (show I190 82 8 = I184 82 8 by rw [← w191, yi_u_ne _ _ (by omega)]).trans he188
        refine yi_D_retv rfl ?_
        exact ⟨_, _, rfl, ⟨fun p k hp => by rw [← w191, yi_u_ne _ _ (by omega), ((mt_E_F hE185)).1 p k (by omega), hGa179 p k (by omega), ← w174, yi_u_ne _ _ (by omega), ← w168, yi_u_ne _ _ (by omega), hGa62 p k (by omega), ← w43, yi_u_ne _ _ (by omega), hGa22 p k (by omega), hGn13 p k (by omega)], fun p k hp => rfl⟩, Or.inr ⟨_, hx166, hz164, he193⟩⟩
      · have c65 : K (a + 2) = 4 + 8 ∧ K (a + 3) = 2 ∧ (V (a + 3) < 0 ∨ 99 < V (a + 3)) := c65
        have hW194 := mt_W_t hW44 (mt_G_F hGa67)
        have hmc195 := mc_G hmc47 hGa67
        have hA196 : mt_A I42 te (a + 2) ∨ True := Or.inr trivial
        have hz197 : 0 < sp_f P (a + 3) 4 := mt_f_ne hW44 (mt_lt hW44.2.1 hA46.2 (by omega)) (by omega)
        have hn198 : 0 < I66 82 8 := by rw [he68]; exact hz197
        have hx199 : sp_R K P V (2, a, 0, [], ld, nm, cs) (.inr (sp_f P (a + 3) 4)) := sp_R_1 (by
          show sp_line K P V a ld nm cs = _
          first
          | (exfalso; omega)
          | (unfold sp_line; (repeat (first | rw [if_pos (by omega)] | rw [if_neg (by omega)])); unfold sp_wish; (repeat (first | rw [if_pos (by omega)] | rw [if_neg (by omega)])); done))
        show yi_D zi_Ms d zi_m105 k (65, [(2, .inl (75 + (3 * (ld 5)))), (1, .inl (ld 5)), (0, .inr (.inr (some 82)))], [.inl z69, .inl ((75 + (3 * (ld 5))) + 1), .inr (.inr (some 88))], (I66, L, R, Y), 0, 0) _
        refine yi_D_is rfl (fun _ _ => ?_)
        generalize w201 : yi_u I66 88 (((75 + (3 * (ld 5))) + 1).toNat) z69 = I200
        have hW202 := mt_W_w (i := 26 + 3 * (ld 5).toNat) (I' := I200) (z69) hW194 (fun h => absurd h (by omega)) (fun p k hp => by rw [← w201, yi_u_ne _ _ (by omega)]) (mt_bd hW194 (by omega) _)
        have hf203 : 0 < I200 82 8 := by rw [← w201, yi_u_ne _ _ (by omega)]; exact hn198
        have he204 : I200 82 8 = _ := (show I200 82 8 = I66 82 8 by rw [← w201, yi_u_ne _ _ (by omega)]).trans he68
        refine yi_D_run 1 (67, [(2, .inl (75 + (3 * (ld 5)))), (1, .inl (ld 5)), (0, .inr (.inr (some 82)))], [.inr (.inr (some 82))], (I200, L, R, Y), 0, 0) (fun _ => rfl) ?_
        refine yi_D_gr (v := some 88) rfl rfl rfl (ym_S_at hS (j := 5) rfl).1 (fun _ => ?_)
        refine yi_D_run 2 (72, [(2, .inl (75 + (3 * (ld 5)))), (1, .inl (ld 5)), (0, .inr (.inr (some 82)))], [.inl 2, .inl (75 + (3 * (ld 5))), .inr (.inr (some 88))], (I200, L, R, Y), 0, 0) (fun _ => rfl) ?_
        refine yi_D_iadd rfl ((75 + (3 * (ld 5))) + 2) (yi_wn (by omega) (by omega)) ?_
        refine yi_D_run 1 (74, [(2, .inl (75 + (3 * (ld 5)))), (1, .inl (ld 5)), (0, .inr (.inr (some 82)))], [.inr (.inr (some 82)), .inl ((75 + (3 * (ld 5))) + 2), .inr (.inr (some 88))], (I200, L, R, Y), 0, 0) (fun _ => rfl) ?_
        
        have r205 : I200 82 13 = I 82 13 := by rw [← w201, yi_u_ne _ _ (by omega), hGa67 82 13 (by omega), ← w43, yi_u_ne _ _ (by omega), hGa22 82 13 (by omega), hGn13 82 13 (by omega)]
        refine yi_D_gi (v := I 82 13) rfl rfl rfl r205 (fun _ => ?_)
        refine yi_D_is rfl (fun _ _ => ?_)
        generalize w207 : yi_u I200 88 (((75 + (3 * (ld 5))) + 2).toNat) (I 82 13) = I206
        have hW208 := mt_W_w (i := 27 + 3 * (ld 5).toNat) (I' := I206) (I 82 13) hW202 (fun h => absurd h (by omega)) (fun p k hp => by rw [← w207, yi_u_ne _ _ (by omega)]) (mt_bd hW202 (by omega) _)
        have hf209 : 0 < I206 82 8 := by rw [← w207, yi_u_ne _ _ (by omega)]; exact hf203
        have he210 : I206 82 8 = _ := (show I206 82 8 = I200 82 8 by rw [← w207, yi_u_ne _ _ (by omega)]).trans he204
        refine yi_D_run 2 (80, [(2, .inl (75 + (3 * (ld 5)))), (1, .inl (ld 5)), (0, .inr (.inr (some 82)))], [.inl 0, .inr (.inr (some 82))], (I206, L, R, Y), 0, 0) (fun _ => rfl) ?_
        refine yi_D_callv rfl (q_readFormula_f hW208 hf209) ?_
        rintro _ ⟨I211, rfl, hGa212, hq213⟩
        have hW214 := mt_W_t hW208 (mt_G_F hGa212)
        have hf215 : 0 < I211 82 8 := by rw [hq213]; exact hf209
        have he216 := hq213.trans he210
        show yi_D zi_Ms d zi_m105 k (83, [(2, .inl (75 + (3 * (ld 5)))), (1, .inl (ld 5)), (0, .inr (.inr (some 82)))], [], (I211, L, R, Y), 0, 0) _
        refine yi_D_run 3 (86, [(2, .inl (75 + (3 * (ld 5)))), (1, .inl (ld 5)), (0, .inr (.inr (some 82)))], [.inl 0, .inl 0, .inr (.inr (some 82))], (I211, L, R, Y), 0, 0) (fun _ => rfl) ?_
        refine yi_D_callv rfl (q_emit hW214) ?_
        rintro _ ⟨I217, rfl, hE218⟩
        have hW219 := mt_W_t hW214 (mt_E_F hE218)
        have hf220 : 0 < I217 82 8 := by rw [hE218.1 82 8 (by omega)]; exact hf215
        have he221 := (hE218.1 82 8 (by omega)).trans he216
        show yi_D zi_Ms d zi_m105 k (89, [(2, .inl (75 + (3 * (ld 5)))), (1, .inl (ld 5)), (0, .inr (.inr (some 82)))], [], (I217, L, R, Y), 0, 0) _
        refine yi_D_run 1 (90, [(2, .inl (75 + (3 * (ld 5)))), (1, .inl (ld 5)), (0, .inr (.inr (some 82)))], [.inr (.inr (some 82))], (I217, L, R, Y), 0, 0) (fun _ => rfl) ?_
        refine yi_D_gr (v := some 88) rfl rfl rfl (ym_S_at hS (j := 5) rfl).1 (fun _ => ?_)
        refine yi_D_run 2 (96, [(2, .inl (75 + (3 * (ld 5)))), (1, .inl (ld 5)), (0, .inr (.inr (some 82)))], [.inl 55, .inr (.inr (some 88)), .inl 55, .inr (.inr (some 88))], (I217, L, R, Y), 0, 0) (fun _ => rfl) ?_
        have r222 : I217 88 55 = ld 5 := by rw [((mt_E_F hE218)).1 88 55 (by omega), hGa212 88 55 (by omega), (show I206 88 55 = ld 5 from (hW208.2.2.2.1 5 (by omega)).trans (by repeat rw [sp_up_n _ _ (by omega)]))]
        refine yi_D_il (v := ld 5) rfl rfl r222 (fun _ _ => ?_)
        refine yi_D_run 1 (98, [(2, .inl (75 + (3 * (ld 5)))), (1, .inl (ld 5)), (0, .inr (.inr (some 82)))], [.inl 1, .inl (ld 5), .inl 55, .inr (.inr (some 88))], (I217, L, R, Y), 0, 0) (fun _ => rfl) ?_
        refine yi_D_iadd rfl ((ld 5) + 1) (yi_wn (by omega) (by omega)) ?_
        refine yi_D_is rfl (fun _ _ => ?_)
        show yi_D zi_Ms d zi_m105 k (100, [(2, .inl (75 + (3 * (ld 5)))), (1, .inl (ld 5)), (0, .inr (.inr (some 82)))], [], ((yi_u I217 88 55 ((ld 5) + 1)), L, R, Y), 0, 0) _
        generalize w224 : yi_u I217 88 55 ((ld 5) + 1) = I223
        have hf225 : 0 < I223 82 8 := by rw [← w224, yi_u_ne _ _ (by omega)]; exact hf220
        have he226 : I223 82 8 = _ := (show I223 82 8 = I217 82 8 by rw [← w224, yi_u_ne _ _ (by omega)]).trans he221
        refine yi_D_retv rfl ?_
        exact ⟨_, _, rfl, ⟨fun p k hp => by rw [← w224, yi_u_ne _ _ (by omega), ((mt_E_F hE218)).1 p k (by omega), hGa212 p k (by omega), ← w207, yi_u_ne _ _ (by omega), ← w201, yi_u_ne _ _ (by omega), hGa67 p k (by omega), ← w43, yi_u_ne _ _ (by omega), hGa22 p k (by omega), hGn13 p k (by omega)], fun p k hp => rfl⟩, Or.inr ⟨_, hx199, hz197, he226⟩⟩
    · have hW227 := mt_W_t hW14 (mt_G_F hGa27)
      have hmc228 := mc_G hmc15 hGa27
      have hz229 : 0 < sp_f P (a + 1) 1 := mt_f_ne hW14 hA17.2 (by omega)
      have hn230 : 0 < I26 82 8 := by rw [he28]; exact hz229
      have hx231 : sp_R K P V (2, a, 0, [], ld, nm, cs) (.inr (sp_f P (a + 1) 1)) := sp_R_1 (by
        show sp_line K P V a ld nm cs = _
        first
        | (exfalso; omega)
        | (unfold sp_line; (repeat (first | rw [if_pos (by omega)] | rw [if_neg (by omega)])); unfold sp_wish; (repeat (first | rw [if_pos (by omega)] | rw [if_neg (by omega)])); done))
      show yi_D zi_Ms d zi_m105 k (48, [(2, .inl (75 + (3 * (ld 5)))), (1, .inl (ld 5)), (0, .inr (.inr (some 82)))], [.inl z29, .inl (75 + (3 * (ld 5))), .inr (.inr (some 88))], (I26, L, R, Y), 0, 0) _
      refine yi_D_is rfl (fun _ _ => ?_)
      generalize w233 : yi_u I26 88 ((75 + (3 * (ld 5))).toNat) z29 = I232
      have hW234 := mt_W_w (i := 25 + 3 * (ld 5).toNat) (I' := I232) (z29) hW227 (fun h => absurd h (by omega)) (fun p k hp => by rw [← w233, yi_u_ne _ _ (by omega)]) (mt_bd hW227 (by omega) _)
      have hf235 : 0 < I232 82 8 := by rw [← w233, yi_u_ne _ _ (by omega)]; exact hn230
      have he236 : I232 82 8 = _ := (show I232 82 8 = I26 82 8 by rw [← w233, yi_u_ne _ _ (by omega)]).trans he28
      refine yi_D_run 1 (50, [(2, .inl (75 + (3 * (ld 5)))), (1, .inl (ld 5)), (0, .inr (.inr (some 82)))], [.inr (.inr (some 82))], (I232, L, R, Y), 0, 0) (fun _ => rfl) ?_
      refine yi_D_gr (v := some 88) rfl rfl rfl (ym_S_at hS (j := 5) rfl).1 (fun _ => ?_)
      refine yi_D_run 2 (55, [(2, .inl (75 + (3 * (ld 5)))), (1, .inl (ld 5)), (0, .inr (.inr (some 82)))], [.inl 1, .inl (75 + (3 * (ld 5))), .inr (.inr (some 88))], (I232, L, R, Y), 0, 0) (fun _ => rfl) ?_
      refine yi_D_iadd rfl ((75 + (3 * (ld 5))) + 1) (yi_wn (by omega) (by omega)) ?_
      refine yi_D_run 4 (62, [(2, .inl (75 + (3 * (ld 5)))), (1, .inl (ld 5)), (0, .inr (.inr (some 82)))], [.inl 99, .inl 0, .inl 8, .inr (.inr (some 82)), .inl ((75 + (3 * (ld 5))) + 1), .inr (.inr (some 88))], (I232, L, R, Y), 0, 0) (fun _ => rfl) ?_
      refine yi_D_callv rfl (q_takeAfter_f hW234 hf235) ?_
      rintro _ ⟨z240, I237, rfl, hGa238, hq239⟩
      have hW241 := mt_W_t hW234 (mt_G_F hGa238)
      have hf242 : 0 < I237 82 8 := by rw [hq239]; exact hf235
      have he243 := hq239.trans he236
      show yi_D zi_Ms d zi_m105 k (65, [(2, .inl (75 + (3 * (ld 5)))), (1, .inl (ld 5)), (0, .inr (.inr (some 82)))], [.inl z240, .inl ((75 + (3 * (ld 5))) + 1), .inr (.inr (some 88))], (I237, L, R, Y), 0, 0) _
      refine yi_D_is rfl (fun _ _ => ?_)
      generalize w245 : yi_u I237 88 (((75 + (3 * (ld 5))) + 1).toNat) z240 = I244
      have hW246 := mt_W_w (i := 26 + 3 * (ld 5).toNat) (I' := I244) (z240) hW241 (fun h => absurd h (by omega)) (fun p k hp => by rw [← w245, yi_u_ne _ _ (by omega)]) (mt_bd hW241 (by omega) _)
      have hf247 : 0 < I244 82 8 := by rw [← w245, yi_u_ne _ _ (by omega)]; exact hf242
      have he248 : I244 82 8 = _ := (show I244 82 8 = I237 82 8 by rw [← w245, yi_u_ne _ _ (by omega)]).trans he243
      refine yi_D_run 1 (67, [(2, .inl (75 + (3 * (ld 5)))), (1, .inl (ld 5)), (0, .inr (.inr (some 82)))], [.inr (.inr (some 82))], (I244, L, R, Y), 0, 0) (fun _ => rfl) ?_
      refine yi_D_gr (v := some 88) rfl rfl rfl (ym_S_at hS (j := 5) rfl).1 (fun _ => ?_)
      refine yi_D_run 2 (72, [(2, .inl (75 + (3 * (ld 5)))), (1, .inl (ld 5)), (0, .inr (.inr (some 82)))], [.inl 2, .inl (75 + (3 * (ld 5))), .inr (.inr (some 88))], (I244, L, R, Y), 0, 0) (fun _ => rfl) ?_
      refine yi_D_iadd rfl ((75 + (3 * (ld 5))) + 2) (yi_wn (by omega) (by omega)) ?_
      refine yi_D_run 1 (74, [(2, .inl (75 + (3 * (ld 5)))), (1, .inl (ld 5)), (0, .inr (.inr (some 82)))], [.inr (.inr (some 82)), .inl ((75 + (3 * (ld 5))) + 2), .inr (.inr (some 88))], (I244, L, R, Y), 0, 0) (fun _ => rfl) ?_
      
      have r249 : I244 82 13 = I 82 13 := by rw [← w245, yi_u_ne _ _ (by omega), hGa238 82 13 (by omega), ← w233, yi_u_ne _ _ (by omega), hGa27 82 13 (by omega), hGn13 82 13 (by omega)]
      refine yi_D_gi (v := I 82 13) rfl rfl rfl r249 (fun _ => ?_)
      refine yi_D_is rfl (fun _ _ => ?_)
      generalize w251 : yi_u I244 88 (((75 + (3 * (ld 5))) + 2).toNat) (I 82 13) = I250
      have hW252 := mt_W_w (i := 27 + 3 * (ld 5).toNat) (I' := I250) (I 82 13) hW246 (fun h => absurd h (by omega)) (fun p k hp => by rw [← w251, yi_u_ne _ _ (by omega)]) (mt_bd hW246 (by omega) _)
      have hf253 : 0 < I250 82 8 := by rw [← w251, yi_u_ne _ _ (by omega)]; exact hf247
      have he254 : I250 82 8 = _ := (show I250 82 8 = I244 82 8 by rw [← w251, yi_u_ne _ _ (by omega)]).trans he248
      refine yi_D_run 2 (80, [(2, .inl (75 + (3 * (ld 5)))), (1, .inl (ld 5)), (0, .inr (.inr (some 82)))], [.inl 0, .inr (.inr (some 82))], (I250, L, R, Y), 0, 0) (fun _ => rfl) ?_
      refine yi_D_callv rfl (q_readFormula_f hW252 hf253) ?_
      rintro _ ⟨I255, rfl, hGa256, hq257⟩
      have hW258 := mt_W_t hW252 (mt_G_F hGa256)
      have hf259 : 0 < I255 82 8 := by rw [hq257]; exact hf253
      have he260 := hq257.trans he254
      show yi_D zi_Ms d zi_m105 k (83, [(2, .inl (75 + (3 * (ld 5)))), (1, .inl (ld 5)), (0, .inr (.inr (some 82)))], [], (I255, L, R, Y), 0, 0) _
      refine yi_D_run 3 (86, [(2, .inl (75 + (3 * (ld 5)))), (1, .inl (ld 5)), (0, .inr (.inr (some 82)))], [.inl 0, .inl 0, .inr (.inr (some 82))], (I255, L, R, Y), 0, 0) (fun _ => rfl) ?_
      refine yi_D_callv rfl (q_emit hW258) ?_
      rintro _ ⟨I261, rfl, hE262⟩
      have hW263 := mt_W_t hW258 (mt_E_F hE262)
      have hf264 : 0 < I261 82 8 := by rw [hE262.1 82 8 (by omega)]; exact hf259
      have he265 := (hE262.1 82 8 (by omega)).trans he260
      show yi_D zi_Ms d zi_m105 k (89, [(2, .inl (75 + (3 * (ld 5)))), (1, .inl (ld 5)), (0, .inr (.inr (some 82)))], [], (I261, L, R, Y), 0, 0) _
      refine yi_D_run 1 (90, [(2, .inl (75 + (3 * (ld 5)))), (1, .inl (ld 5)), (0, .inr (.inr (some 82)))], [.inr (.inr (some 82))], (I261, L, R, Y), 0, 0) (fun _ => rfl) ?_
      refine yi_D_gr (v := some 88) rfl rfl rfl (ym_S_at hS (j := 5) rfl).1 (fun _ => ?_)
      refine yi_D_run 2 (96, [(2, .inl (75 + (3 * (ld 5)))), (1, .inl (ld 5)), (0, .inr (.inr (some 82)))], [.inl 55, .inr (.inr (some 88)), .inl 55, .inr (.inr (some 88))], (I261, L, R, Y), 0, 0) (fun _ => rfl) ?_
      have r266 : I261 88 55 = ld 5 := by rw [((mt_E_F hE262)).1 88 55 (by omega), hGa256 88 55 (by omega), (show I250 88 55 = ld 5 from (hW252.2.2.2.1 5 (by omega)).trans (by repeat rw [sp_up_n _ _ (by omega)]))]
      refine yi_D_il (v := ld 5) rfl rfl r266 (fun _ _ => ?_)
      refine yi_D_run 1 (98, [(2, .inl (75 + (3 * (ld 5)))), (1, .inl (ld 5)), (0, .inr (.inr (some 82)))], [.inl 1, .inl (ld 5), .inl 55, .inr (.inr (some 88))], (I261, L, R, Y), 0, 0) (fun _ => rfl) ?_
      refine yi_D_iadd rfl ((ld 5) + 1) (yi_wn (by omega) (by omega)) ?_
      refine yi_D_is rfl (fun _ _ => ?_)
      show yi_D zi_Ms d zi_m105 k (100, [(2, .inl (75 + (3 * (ld 5)))), (1, .inl (ld 5)), (0, .inr (.inr (some 82)))], [], ((yi_u I261 88 55 ((ld 5) + 1)), L, R, Y), 0, 0) _
      generalize w268 : yi_u I261 88 55 ((ld 5) + 1) = I267
      have hf269 : 0 < I267 82 8 := by rw [← w268, yi_u_ne _ _ (by omega)]; exact hf264
      have he270 : I267 82 8 = _ := (show I267 82 8 = I261 82 8 by rw [← w268, yi_u_ne _ _ (by omega)]).trans he265
      refine yi_D_retv rfl ?_
      exact ⟨_, _, rfl, ⟨fun p k hp => by rw [← w268, yi_u_ne _ _ (by omega), ((mt_E_F hE262)).1 p k (by omega), hGa256 p k (by omega), ← w251, yi_u_ne _ _ (by omega), ← w245, yi_u_ne _ _ (by omega), hGa238 p k (by omega), ← w233, yi_u_ne _ _ (by omega), hGa27 p k (by omega), hGn13 p k (by omega)], fun p k hp => rfl⟩, Or.inr ⟨_, hx231, hz229, he270⟩⟩
    · have hW271 := mt_W_t hW14 (mt_G_F hGa32)
      have hmc272 := mc_G hmc15 hGa32
      have hz273 : 0 < sp_f P (a + 1) 2 := mt_f_ne hW14 hA17.2 (by omega)
      have hn274 : 0 < I31 82 8 := by rw [he33]; exact hz273
      have hx275 : sp_R K P V (2, a, 0, [], ld, nm, cs) (.inr (sp_f P (a + 1) 2)) := sp_R_1 (by
        show sp_line K P V a ld nm cs = _
        first
        | (exfalso; omega)
        | (unfold sp_line; (repeat (first | rw [if_pos (by omega)] | rw [if_neg (by omega)])); unfold sp_wish; (repeat (first | rw [if_pos (by omega)] | rw [if_neg (by omega)])); done))
      show yi_D zi_Ms d zi_m105 k (48, [(2, .inl (75 + (3 * (ld 5)))), (1, .inl (ld 5)), (0, .inr (.inr (some 82)))], [.inl z34, .inl (75 + (3 * (ld 5))), .inr (.inr (some 88))], (I31, L, R, Y), 0, 0) _
      refine yi_D_is rfl (fun _ _ => ?_)
      generalize w277 : yi_u I31 88 ((75 + (3 * (ld 5))).toNat) z34 = I276
      have hW278 := mt_W_w (i := 25 + 3 * (ld 5).toNat) (I' := I276) (z34) hW271 (fun h => absurd h (by omega)) (fun p k hp => by rw [← w277, yi_u_ne _ _ (by omega)]) (mt_bd hW271 (by omega) _)
      have hf279 : 0 < I276 82 8 := by rw [← w277, yi_u_ne _ _ (by omega)]; exact hn274
      have he280 : I276 82 8 = _ := (show I276 82 8 = I31 82 8 by rw [← w277, yi_u_ne _ _ (by omega)]).trans he33
      refine yi_D_run 1 (50, [(2, .inl (75 + (3 * (ld 5)))), (1, .inl (ld 5)), (0, .inr (.inr (some 82)))], [.inr (.inr (some 82))], (I276, L, R, Y), 0, 0) (fun _ => rfl) ?_
      refine yi_D_gr (v := some 88) rfl rfl rfl (ym_S_at hS (j := 5) rfl).1 (fun _ => ?_)
      refine yi_D_run 2 (55, [(2, .inl (75 + (3 * (ld 5)))), (1, .inl (ld 5)), (0, .inr (.inr (some 82)))], [.inl 1, .inl (75 + (3 * (ld 5))), .inr (.inr (some 88))], (I276, L, R, Y), 0, 0) (fun _ => rfl) ?_
      refine yi_D_iadd rfl ((75 + (3 * (ld 5))) + 1) (yi_wn (by omega) (by omega)) ?_
      refine yi_D_run 4 (62, [(2, .inl (75 + (3 * (ld 5)))), (1, .inl (ld 5)), (0, .inr (.inr (some 82)))], [.inl 99, .inl 0, .inl 8, .inr (.inr (some 82)), .inl ((75 + (3 * (ld 5))) + 1), .inr (.inr (some 88))], (I276, L, R, Y), 0, 0) (fun _ => rfl) ?_
      refine yi_D_callv rfl (q_takeAfter_f hW278 hf279) ?_
      rintro _ ⟨z284, I281, rfl, hGa282, hq283⟩
      have hW285 := mt_W_t hW278 (mt_G_F hGa282)
      have hf286 : 0 < I281 82 8 := by rw [hq283]; exact hf279
      have he287 := hq283.trans he280
      show yi_D zi_Ms d zi_m105 k (65, [(2, .inl (75 + (3 * (ld 5)))), (1, .inl (ld 5)), (0, .inr (.inr (some 82)))], [.inl z284, .inl ((75 + (3 * (ld 5))) + 1), .inr (.inr (some 88))], (I281, L, R, Y), 0, 0) _
      refine yi_D_is rfl (fun _ _ => ?_)
      generalize w289 : yi_u I281 88 (((75 + (3 * (ld 5))) + 1).toNat) z284 = I288
      have hW290 := mt_W_w (i := 26 + 3 * (ld 5).toNat) (I' := I288) (z284) hW285 (fun h => absurd h (by omega)) (fun p k hp => by rw [← w289, yi_u_ne _ _ (by omega)]) (mt_bd hW285 (by omega) _)
      have hf291 : 0 < I288 82 8 := by rw [← w289, yi_u_ne _ _ (by omega)]; exact hf286
      have he292 : I288 82 8 = _ := (show I288 82 8 = I281 82 8 by rw [← w289, yi_u_ne _ _ (by omega)]).trans he287
      refine yi_D_run 1 (67, [(2, .inl (75 + (3 * (ld 5)))), (1, .inl (ld 5)), (0, .inr (.inr (some 82)))], [.inr (.inr (some 82))], (I288, L, R, Y), 0, 0) (fun _ => rfl) ?_
      refine yi_D_gr (v := some 88) rfl rfl rfl (ym_S_at hS (j := 5) rfl).1 (fun _ => ?_)
      refine yi_D_run 2 (72, [(2, .inl (75 + (3 * (ld 5)))), (1, .inl (ld 5)), (0, .inr (.inr (some 82)))], [.inl 2, .inl (75 + (3 * (ld 5))), .inr (.inr (some 88))], (I288, L, R, Y), 0, 0) (fun _ => rfl) ?_
      refine yi_D_iadd rfl ((75 + (3 * (ld 5))) + 2) (yi_wn (by omega) (by omega)) ?_
      refine yi_D_run 1 (74, [(2, .inl (75 + (3 * (ld 5)))), (1, .inl (ld 5)), (0, .inr (.inr (some 82)))], [.inr (.inr (some 82)), .inl ((75 + (3 * (ld 5))) + 2), .inr (.inr (some 88))], (I288, L, R, Y), 0, 0) (fun _ => rfl) ?_
      
      have r293 : I288 82 13 = I 82 13 := by rw [← w289, yi_u_ne _ _ (by omega), hGa282 82 13 (by omega), ← w277, yi_u_ne _ _ (by omega), hGa32 82 13 (by omega), hGn13 82 13 (by omega)]
      refine yi_D_gi (v := I 82 13) rfl rfl rfl r293 (fun _ => ?_)
      refine yi_D_is rfl (fun _ _ => ?_)
      generalize w295 : yi_u I288 88 (((75 + (3 * (ld 5))) + 2).toNat) (I 82 13) = I294
      have hW296 := mt_W_w (i := 27 + 3 * (ld 5).toNat) (I' := I294) (I 82 13) hW290 (fun h => absurd h (by omega)) (fun p k hp => by rw [← w295, yi_u_ne _ _ (by omega)]) (mt_bd hW290 (by omega) _)
      have hf297 : 0 < I294 82 8 := by rw [← w295, yi_u_ne _ _ (by omega)]; exact hf291
      have he298 : I294 82 8 = _ := (show I294 82 8 = I288 82 8 by rw [← w295, yi_u_ne _ _ (by omega)]).trans he292
      refine yi_D_run 2 (80, [(2, .inl (75 + (3 * (ld 5)))), (1, .inl (ld 5)), (0, .inr (.inr (some 82)))], [.inl 0, .inr (.inr (some 82))], (I294, L, R, Y), 0, 0) (fun _ => rfl) ?_
      refine yi_D_callv rfl (q_readFormula_f hW296 hf297) ?_
      rintro _ ⟨I299, rfl, hGa300, hq301⟩
      have hW302 := mt_W_t hW296 (mt_G_F hGa300)
      have hf303 : 0 < I299 82 8 := by rw [hq301]; exact hf297
      have he304 := hq301.trans he298
      show yi_D zi_Ms d zi_m105 k (83, [(2, .inl (75 + (3 * (ld 5)))), (1, .inl (ld 5)), (0, .inr (.inr (some 82)))], [], (I299, L, R, Y), 0, 0) _
      refine yi_D_run 3 (86, [(2, .inl (75 + (3 * (ld 5)))), (1, .inl (ld 5)), (0, .inr (.inr (some 82)))], [.inl 0, .inl 0, .inr (.inr (some 82))], (I299, L, R, Y), 0, 0) (fun _ => rfl) ?_
      refine yi_D_callv rfl (q_emit hW302) ?_
      rintro _ ⟨I305, rfl, hE306⟩
      have hW307 := mt_W_t hW302 (mt_E_F hE306)
      have hf308 : 0 < I305 82 8 := by rw [hE306.1 82 8 (by omega)]; exact hf303
      have he309 := (hE306.1 82 8 (by omega)).trans he304
      show yi_D zi_Ms d zi_m105 k (89, [(2, .inl (75 + (3 * (ld 5)))), (1, .inl (ld 5)), (0, .inr (.inr (some 82)))], [], (I305, L, R, Y), 0, 0) _
      refine yi_D_run 1 (90, [(2, .inl (75 + (3 * (ld 5)))), (1, .inl (ld 5)), (0, .inr (.inr (some 82)))], [.inr (.inr (some 82))], (I305, L, R, Y), 0, 0) (fun _ => rfl) ?_
      refine yi_D_gr (v := some 88) rfl rfl rfl (ym_S_at hS (j := 5) rfl).1 (fun _ => ?_)
      refine yi_D_run 2 (96, [(2, .inl (75 + (3 * (ld 5)))), (1, .inl (ld 5)), (0, .inr (.inr (some 82)))], [.inl 55, .inr (.inr (some 88)), .inl 55, .inr (.inr (some 88))], (I305, L, R, Y), 0, 0) (fun _ => rfl) ?_
      have r310 : I305 88 55 = ld 5 := by rw [((mt_E_F hE306)).1 88 55 (by omega), hGa300 88 55 (by omega), (show I294 88 55 = ld 5 from (hW296.2.2.2.1 5 (by omega)).trans (by repeat rw [sp_up_n _ _ (by omega)]))]
      refine yi_D_il (v := ld 5) rfl rfl r310 (fun _ _ => ?_)
      refine yi_D_run 1 (98, [(2, .inl (75 + (3 * (ld 5)))), (1, .inl (ld 5)), (0, .inr (.inr (some 82)))], [.inl 1, .inl (ld 5), .inl 55, .inr (.inr (some 88))], (I305, L, R, Y), 0, 0) (fun _ => rfl) ?_
      refine yi_D_iadd rfl ((ld 5) + 1) (yi_wn (by omega) (by omega)) ?_
      refine yi_D_is rfl (fun _ _ => ?_)
      show yi_D zi_Ms d zi_m105 k (100, [(2, .inl (75 + (3 * (ld 5)))), (1, .inl (ld 5)), (0, .inr (.inr (some 82)))], [], ((yi_u I305 88 55 ((ld 5) + 1)), L, R, Y), 0, 0) _
      generalize w312 : yi_u I305 88 55 ((ld 5) + 1) = I311
      have hf313 : 0 < I311 82 8 := by rw [← w312, yi_u_ne _ _ (by omega)]; exact hf308
      have he314 : I311 82 8 = _ := (show I311 82 8 = I305 82 8 by rw [← w312, yi_u_ne _ _ (by omega)]).trans he309
      refine yi_D_retv rfl ?_
      exact ⟨_, _, rfl, ⟨fun p k hp => by rw [← w312, yi_u_ne _ _ (by omega), ((mt_E_F hE306)).1 p k (by omega), hGa300 p k (by omega), ← w295, yi_u_ne _ _ (by omega), ← w289, yi_u_ne _ _ (by omega), hGa282 p k (by omega), ← w277, yi_u_ne _ _ (by omega), hGa32 p k (by omega), hGn13 p k (by omega)], fun p k hp => rfl⟩, Or.inr ⟨_, hx275, hz273, he314⟩⟩
    · have hW315 := mt_W_t hW14 (mt_G_F hGa37)
      have hmc316 := mc_G hmc15 hGa37
      have hz317 : 0 < sp_f P (a + 1) 3 := mt_f_ne hW14 hA17.2 (by omega)
      have hn318 : 0 < I36 82 8 := by rw [he38]; exact hz317
      have hx319 : sp_R K P V (2, a, 0, [], ld, nm, cs) (.inr (sp_f P (a + 1) 3)) := sp_R_1 (by
        show sp_line K P V a ld nm cs = _
        first
        | (exfalso; omega)
        | (unfold sp_line; (repeat (first | rw [if_pos (by omega)] | rw [if_neg (by omega)])); unfold sp_wish; (repeat (first | rw [if_pos (by omega)] | rw [if_neg (by omega)])); done))
      show yi_D zi_Ms d zi_m105 k (48, [(2, .inl (75 + (3 * (ld 5)))), (1, .inl (ld 5)), (0, .inr (.inr (some 82)))], [.inl z39, .inl (75 + (3 * (ld 5))), .inr (.inr (some 88))], (I36, L, R, Y), 0, 0) _
      refine yi_D_is rfl (fun _ _ => ?_)
      generalize w321 : yi_u I36 88 ((75 + (3 * (ld 5))).toNat) z39 = I320
      have hW322 := mt_W_w (i := 25 + 3 * (ld 5).toNat) (I' := I320) (z39) hW315 (fun h => absurd h (by omega)) (fun p k hp => by rw [← w321, yi_u_ne _ _ (by omega)]) (mt_bd hW315 (by omega) _)
      have hf323 : 0 < I320 82 8 := by rw [← w321, yi_u_ne _ _ (by omega)]; exact hn318
      have he324 : I320 82 8 = _ := (show I320 82 8 = I36 82 8 by rw [← w321, yi_u_ne _ _ (by omega)]).trans he38
      refine yi_D_run 1 (50, [(2, .inl (75 + (3 * (ld 5)))), (1, .inl (ld 5)), (0, .inr (.inr (some 82)))], [.inr (.inr (some 82))], (I320, L, R, Y), 0, 0) (fun _ => rfl) ?_
      refine yi_D_gr (v := some 88) rfl rfl rfl (ym_S_at hS (j := 5) rfl).1 (fun _ => ?_)
      refine yi_D_run 2 (55, [(2, .inl (75 + (3 * (ld 5)))), (1, .inl (ld 5)), (0, .inr (.inr (some 82)))], [.inl 1, .inl (75 + (3 * (ld 5))), .inr (.inr (some 88))], (I320, L, R, Y), 0, 0) (fun _ => rfl) ?_
      refine yi_D_iadd rfl ((75 + (3 * (ld 5))) + 1) (yi_wn (by omega) (by omega)) ?_
      refine yi_D_run 4 (62, [(2, .inl (75 + (3 * (ld 5)))), (1, .inl (ld 5)), (0, .inr (.inr (some 82)))], [.inl 99, .inl 0, .inl 8, .inr (.inr (some 82)), .inl ((75 + (3 * (ld 5))) + 1), .inr (.inr (some 88))], (I320, L, R, Y), 0, 0) (fun _ => rfl) ?_
      refine yi_D_callv rfl (q_takeAfter_f hW322 hf323) ?_
      rintro _ ⟨z328, I325, rfl, hGa326, hq327⟩
      have hW329 := mt_W_t hW322 (mt_G_F hGa326)
      have hf330 : 0 < I325 82 8 := by rw [hq327]; exact hf323
      have he331 := hq327.trans he324
      show yi_D zi_Ms d zi_m105 k (65, [(2, .inl (75 + (3 * (ld 5)))), (1, .inl (ld 5)), (0, .inr (.inr (some 82)))], [.inl z328, .inl ((75 + (3 * (ld 5))) + 1), .inr (.inr (some 88))], (I325, L, R, Y), 0, 0) _
      refine yi_D_is rfl (fun _ _ => ?_)
      generalize w333 : yi_u I325 88 (((75 + (3 * (ld 5))) + 1).toNat) z328 = I332
      have hW334 := mt_W_w (i := 26 + 3 * (ld 5).toNat) (I' := I332) (z328) hW329 (fun h => absurd h (by omega)) (fun p k hp => by rw [← w333, yi_u_ne _ _ (by omega)]) (mt_bd hW329 (by omega) _)
      have hf335 : 0 < I332 82 8 := by rw [← w333, yi_u_ne _ _ (by omega)]; exact hf330
      have he336 : I332 82 8 = _ := (show I332 82 8 = I325 82 8 by rw [← w333, yi_u_ne _ _ (by omega)]).trans he331
      refine yi_D_run 1 (67, [(2, .inl (75 + (3 * (ld 5)))), (1, .inl (ld 5)), (0, .inr (.inr (some 82)))], [.inr (.inr (some 82))], (I332, L, R, Y), 0, 0) (fun _ => rfl) ?_
      refine yi_D_gr (v := some 88) rfl rfl rfl (ym_S_at hS (j := 5) rfl).1 (fun _ => ?_)
      refine yi_D_run 2 (72, [(2, .inl (75 + (3 * (ld 5)))), (1, .inl (ld 5)), (0, .inr (.inr (some 82)))], [.inl 2, .inl (75 + (3 * (ld 5))), .inr (.inr (some 88))], (I332, L, R, Y), 0, 0) (fun _ => rfl) ?_
      refine yi_D_iadd rfl ((75 + (3 * (ld 5))) + 2) (yi_wn (by omega) (by omega)) ?_
      refine yi_D_run 1 (74, [(2, .inl (75 + (3 * (ld 5)))), (1, .inl (ld 5)), (0, .inr (.inr (some 82)))], [.inr (.inr (some 82)), .inl ((75 + (3 * (ld 5))) + 2), .inr (.inr (some 88))], (I332, L, R, Y), 0, 0) (fun _ => rfl) ?_
      
      have r337 : I332 82 13 = I 82 13 := by rw [← w333, yi_u_ne _ _ (by omega), hGa326 82 13 (by omega), ← w321, yi_u_ne _ _ (by omega), hGa37 82 13 (by omega), hGn13 82 13 (by omega)]
      refine yi_D_gi (v := I 82 13) rfl rfl rfl r337 (fun _ => ?_)
      refine yi_D_is rfl (fun _ _ => ?_)
      generalize w339 : yi_u I332 88 (((75 + (3 * (ld 5))) + 2).toNat) (I 82 13) = I338
      have hW340 := mt_W_w (i := 27 + 3 * (ld 5).toNat) (I' := I338) (I 82 13) hW334 (fun h => absurd h (by omega)) (fun p k hp => by rw [← w339, yi_u_ne _ _ (by omega)]) (mt_bd hW334 (by omega) _)
      have hf341 : 0 < I338 82 8 := by rw [← w339, yi_u_ne _ _ (by omega)]; exact hf335
      have he342 : I338 82 8 = _ := (show I338 82 8 = I332 82 8 by rw [← w339, yi_u_ne _ _ (by omega)]).trans he336
      refine yi_D_run 2 (80, [(2, .inl (75 + (3 * (ld 5)))), (1, .inl (ld 5)), (0, .inr (.inr (some 82)))], [.inl 0, .inr (.inr (some 82))], (I338, L, R, Y), 0, 0) (fun _ => rfl) ?_
      refine yi_D_callv rfl (q_readFormula_f hW340 hf341) ?_
      rintro _ ⟨I343, rfl, hGa344, hq345⟩
      have hW346 := mt_W_t hW340 (mt_G_F hGa344)
      have hf347 : 0 < I343 82 8 := by rw [hq345]; exact hf341
      have he348 := hq345.trans he342
      show yi_D zi_Ms d zi_m105 k (83, [(2, .inl (75 + (3 * (ld 5)))), (1, .inl (ld 5)), (0, .inr (.inr (some 82)))], [], (I343, L, R, Y), 0, 0) _
      refine yi_D_run 3 (86, [(2, .inl (75 + (3 * (ld 5)))), (1, .inl (ld 5)), (0, .inr (.inr (some 82)))], [.inl 0, .inl 0, .inr (.inr (some 82))], (I343, L, R, Y), 0, 0) (fun _ => rfl) ?_
      refine yi_D_callv rfl (q_emit hW346) ?_
      rintro _ ⟨I349, rfl, hE350⟩
      have hW351 := mt_W_t hW346 (mt_E_F hE350)
      have hf352 : 0 < I349 82 8 := by rw [hE350.1 82 8 (by omega)]; exact hf347
      have he353 := (hE350.1 82 8 (by omega)).trans he348
      show yi_D zi_Ms d zi_m105 k (89, [(2, .inl (75 + (3 * (ld 5)))), (1, .inl (ld 5)), (0, .inr (.inr (some 82)))], [], (I349, L, R, Y), 0, 0) _
      refine yi_D_run 1 (90, [(2, .inl (75 + (3 * (ld 5)))), (1, .inl (ld 5)), (0, .inr (.inr (some 82)))], [.inr (.inr (some 82))], (I349, L, R, Y), 0, 0) (fun _ => rfl) ?_
      refine yi_D_gr (v := some 88) rfl rfl rfl (ym_S_at hS (j := 5) rfl).1 (fun _ => ?_)
      refine yi_D_run 2 (96, [(2, .inl (75 + (3 * (ld 5)))), (1, .inl (ld 5)), (0, .inr (.inr (some 82)))], [.inl 55, .inr (.inr (some 88)), .inl 55, .inr (.inr (some 88))], (I349, L, R, Y), 0, 0) (fun _ => rfl) ?_
      have r354 : I349 88 55 = ld 5 := by rw [((mt_E_F hE350)).1 88 55 (by omega), hGa344 88 55 (by omega), (show I338 88 55 = ld 5 from (hW340.2.2.2.1 5 (by omega)).trans (by repeat rw [sp_up_n _ _ (by omega)]))]
      refine yi_D_il (v := ld 5) rfl rfl r354 (fun _ _ => ?_)
      refine yi_D_run 1 (98, [(2, .inl (75 + (3 * (ld 5)))), (1, .inl (ld 5)), (0, .inr (.inr (some 82)))], [.inl 1, .inl (ld 5), .inl 55, .inr (.inr (some 88))], (I349, L, R, Y), 0, 0) (fun _ => rfl) ?_
      refine yi_D_iadd rfl ((ld 5) + 1) (yi_wn (by omega) (by omega)) ?_
      refine yi_D_is rfl (fun _ _ => ?_)
      show yi_D zi_Ms d zi_m105 k (100, [(2, .inl (75 + (3 * (ld 5)))), (1, .inl (ld 5)), (0, .inr (.inr (some 82)))], [], ((yi_u I349 88 55 ((ld 5) + 1)), L, R, Y), 0, 0) _
      generalize w356 : yi_u I349 88 55 ((ld 5) + 1) = I355
      have hf357 : 0 < I355 82 8 := by rw [← w356, yi_u_ne _ _ (by omega)]; exact hf352
      have he358 : I355 82 8 = _ := (show I355 82 8 = I349 82 8 by rw [← w356, yi_u_ne _ _ (by omega)]).trans he353
      refine yi_D_retv rfl ?_
      exact ⟨_, _, rfl, ⟨fun p k hp => by rw [← w356, yi_u_ne _ _ (by omega), ((mt_E_F hE350)).1 p k (by omega), hGa344 p k (by omega), ← w339, yi_u_ne _ _ (by omega), ← w333, yi_u_ne _ _ (by omega), hGa326 p k (by omega), ← w321, yi_u_ne _ _ (by omega), hGa37 p k (by omega), hGn13 p k (by omega)], fun p k hp => rfl⟩, Or.inr ⟨_, hx319, hz317, he358⟩⟩
theorem q_readPriceC {d : Nat} {I L : Nat → Nat → Int} {R : Nat → Nat → Option Nat} {Y : (Nat → Nat) × (Nat → Nat) × Nat} {K P V : Nat → Int} {te a : Nat} {ld : Nat → Int} {nm : Int → Int} (hW : mt_W I L R Y K P V te 50 ld nm) (hf : I 82 8 = 0) (hA : mt_A I te a) (cs : List (Int × Int)) (hd0 : 1 ≤ ld 0) (h6 : ld 6 < 0 → I 88 56 < 0) {gg : Nat → Int × Int} (hml : ml_S gg I ld cs) (hk : ¬ K a = 0 ∧ ¬ K a = 5 ∧ ¬ K a = 7 ∧ ¬ K a = 8 ∧ ¬ K a = 10 ∧ ¬ K a = 11) : yi_P zi_Ms d 102 [.inr (.inr (some 82))] (I, L, R, Y) (mt_QLC gg I L R Y K P V te (2, a, 0, [], ld, nm, cs) a) := by
  refine yi_P_of (M := zi_m102) rfl (fun d k => ?_)
  have hS := hW.1
  have ht := hW.2.1.1
  have ha := hA.2
  have hp := hW.2.1.2.1 a hA.2
  have hbd := hW.2.2.2.2.2.2.1
  have hc3 : I 88 56 < 0 → ld 6 < 0 := hW.2.2.2.2.1
  have hm := hml.1
  show yi_D zi_Ms d zi_m102 k (0, [(0, .inr (.inr (some 82)))], [], (I, L, R, Y), 0, 0) _
  refine yi_D_run 2 (3, [(0, .inr (.inr (some 82)))], [.inl 9, .inr (.inr (some 82))], (I, L, R, Y), 0, 0) (fun _ => rfl) ?_
  refine yi_D_callv rfl (q_isWord_z (by omega) (by omega) hW hf hA) ?_
  rintro _ (⟨c1, rfl⟩ | ⟨c1, rfl⟩)
  · show yi_D zi_Ms d zi_m102 k (6, [(0, .inr (.inr (some 82)))], [.inl 1], (I, L, R, Y), 0, 0) _
    refine yi_D_if1 true rfl (by decide) ?_
    refine yi_D_run 1 (18, [(0, .inr (.inr (some 82)))], [.inr (.inr (some 82))], (I, L, R, Y), 0, 0) (fun _ => rfl) ?_
    refine yi_D_gr (v := some 88) rfl rfl rfl (ym_S_at hS (j := 5) rfl).1 (fun _ => ?_)
    refine yi_D_run 1 (23, [(0, .inr (.inr (some 82)))], [.inl 56, .inr (.inr (some 88))], (I, L, R, Y), 0, 0) (fun _ => rfl) ?_
    refine yi_D_il (v := I 88 56) rfl rfl rfl (fun _ _ => ?_)
    by_cases h2 : (I 88 56) < 0
    · refine yi_D_if1 true rfl (yi_lt_t h2) ?_
      refine yi_D_run 1 (33, [(0, .inr (.inr (some 82)))], [.inr (.inr (some 82))], (I, L, R, Y), 0, 0) (fun _ => rfl) ?_
      refine yi_D_gi (v := 0) rfl rfl rfl hf (fun _ => ?_)
      refine yi_D_if1 true rfl (by decide) ?_
      refine yi_D_run 2 (42, [(0, .inr (.inr (some 82)))], [.inr (.inr (some 82)), .inr (.inr (some 82))], (I, L, R, Y), 0, 0) (fun _ => rfl) ?_
      refine yi_D_gi (v := (a : Int)) rfl rfl rfl hA.1 (fun _ => ?_)
      refine yi_D_run 1 (46, [(0, .inr (.inr (some 82)))], [.inl 1, .inl (a : Int), .inr (.inr (some 82))], (I, L, R, Y), 0, 0) (fun _ => rfl) ?_
      refine yi_D_iadd rfl ((a : Int) + 1) (yi_wn (by omega) (by omega)) ?_
      refine yi_D_pi rfl (fun _ => ?_)
      generalize w4 : yi_u I 82 7 ((a : Int) + 1) = I3
      have hGn5 : mt_G I I3 := fun p k hp => by rw [← w4, yi_u_ne _ _ (by omega)]
      have hW6 := mt_W_t hW (mt_G_F hGn5)
      have hmc7 := mc_G hm hGn5
      have hf8 : I3 82 8 = 0 := by rw [← w4, yi_u_ne _ _ (by omega)]; exact hf
      have hA9 : mt_A I3 te (a + 1) := ⟨by rw [← w4, yi_u_eq]; omega, mt_lt hW6.2.1 hA.2 (by omega)⟩
      refine yi_D_run 1 (51, [(0, .inr (.inr (some 82)))], [.inr (.inr (some 82))], (I3, L, R, Y), 0, 0) (fun _ => rfl) ?_
      refine yi_D_gr (v := some 88) rfl rfl rfl (ym_S_at hS (j := 5) rfl).1 (fun _ => ?_)
      refine yi_D_run 2 (57, [(0, .inr (.inr (some 82)))], [.inr (.inr (some 82)), .inl 56, .inr (.inr (some 88))], (I3, L, R, Y), 0, 0) (fun _ => rfl) ?_
      
      refine yi_D_gi (v := (cs.length : Int)) rfl rfl rfl hmc7.1 (fun _ => ?_)
      refine yi_D_is rfl (fun _ _ => ?_)
      show yi_D zi_Ms d zi_m102 k (61, [(0, .inr (.inr (some 82)))], [], ((yi_u I3 88 56 (cs.length : Int)), L, R, Y), 0, 0) _
      generalize w11 : yi_u I3 88 56 (cs.length : Int) = I10
      have hW12 := mt_W_6 (I' := I10) hW6 (by rw [← w11, yi_u_eq]; first | exact hW.2.2.2.2.2.2.2.1 | omega) (fun p k hp => by rw [← w11, yi_u_ne _ _ (by omega)])
      have hf13 : I10 82 8 = 0 := by rw [← w11, yi_u_ne _ _ (by omega)]; exact hf8
      have hA14 : mt_A I10 te (a + 1) := ⟨by rw [← w11, yi_u_ne _ _ (by omega)]; exact hA9.1, hA9.2⟩
      have hmc15 := mc_w (I' := I10) hmc7 (fun p k hp => by rw [← w11, yi_u_ne _ _ (by omega)])
      refine yi_D_run 2 (63, [(0, .inr (.inr (some 82)))], [.inl 0, .inr (.inr (some 82))], (I10, L, R, Y), 0, 0) (fun _ => rfl) ?_
      have hst16 : sp_R K P V (2, a, 0, [], ld, nm, cs) (.inl (8, a + 1, 0, [7, cs.length], ld, nm, cs)) := sp_R_1 (by
        show sp_line K P V a ld nm cs = _
        unfold sp_line; (repeat (first | rw [if_pos (by omega)] | rw [if_neg (by omega)])))
      refine yi_D_callv rfl (q_orsC 0 [7, cs.length] cs hW12 hf13 hA14 (by omega) hmc15) ?_
      rintro _ ⟨I17, rfl, hFr18, (⟨a19, cs20, hR21, lt22, hf23, hA24, hmc25, hwf26⟩ | ⟨f27, hR28, hz29, he30⟩)⟩
      · have hW31 := mt_W_t hW12 hFr18
        have hR32 : sp_R K P V (2, a, 0, [], ld, nm, cs) (.inl (1, a19, 0, [], sp_up ld 6 (cs.length : Nat), nm, cs20 ++ [(0, 0)])) := sp_R_s (sp_R_t hst16 hR21) rfl
        have hwf33 : wfX okP (25) cs cs20 := wfX_m hwf26 (by omega)
        show yi_D zi_Ms d zi_m102 k (66, [(0, .inr (.inr (some 82)))], [], (I17, L, R, Y), 0, 0) _
        refine yi_D_run 3 (69, [(0, .inr (.inr (some 82)))], [.inl 0, .inl 0, .inr (.inr (some 82))], (I17, L, R, Y), 0, 0) (fun _ => rfl) ?_
        refine yi_D_callv rfl (q_emitC hW31 hmc25) ?_
        rintro _ ⟨I34, rfl, hE35, hmc36⟩
        have hW37 := mt_W_t hW31 (mt_E_F hE35)
        have hf38 : I34 82 8 = 0 := (hE35.1 82 8 (by omega)).trans hf23
        have hA39 : mt_A I34 te a19 := ⟨(hE35.1 82 7 (by omega)).trans hA24.1, hA24.2⟩
        show yi_D zi_Ms d zi_m102 k (72, [(0, .inr (.inr (some 82)))], [], (I34, L, R, Y), 0, 0) _
        refine yi_D_retv rfl ?_
        have hstep := hR32
        have h56 : 0 ≤ I34 88 56 := by rw [((mt_E_F hE35)).1 88 56 (by omega), (hFr18).1 88 56 (by omega), ← w11, yi_u_eq]; first | exact hW.2.2.2.2.2.2.2.1 | omega
        have hW40 := mt_W_6u hW37 h56 (cs.length : Nat)
        have hml2 : ml_S gg I34 (sp_up ld 6 (cs.length : Nat)) (cs20 ++ [(0, 0)]) := ml_price hml hmc36 hwf33 (by rw [((mt_E_F hE35)).1 88 56 (by omega), (hFr18).1 88 56 (by omega), ← w11, show 56 = 56 by omega, yi_u_eq]) (fun k hk => by rw [((mt_E_F hE35)).1 88 k (by omega), (hFr18).1 88 k (by omega), ← w11, yi_u_ne _ _ (by omega), hGn5 88 k (by omega)])
        exact ⟨_, _, rfl, ⟨fun p k hp => by rw [((mt_E_F hE35)).1 p k (by omega), (hFr18).1 p k (by omega), ← w11, yi_u_ne _ _ (by omega), hGn5 p k (by omega)], fun p k hp => rfl⟩, Or.inl ⟨_, _, _, _, hstep, by omega, hf38, hA39, hW40, (by (repeat rw [sp_up_n _ _ (by omega)]); exact hd0), (fun x => by rw [sp_up_e] at x; omega), hml2⟩⟩
      · have hW41 := mt_W_t hW12 hFr18
        have hn42 : 0 < I17 82 8 := by rw [he30]; exact hz29
        have hx43 : sp_R K P V (2, a, 0, [], ld, nm, cs) (.inr f27) := sp_R_t hst16 hR28
        show yi_D zi_Ms d zi_m102 k (66, [(0, .inr (.inr (some 82)))], [], (I17, L, R, Y), 0, 0) _
        refine yi_D_run 3 (69, [(0, .inr (.inr (some 82)))], [.inl 0, .inl 0, .inr (.inr (some 82))], (I17, L, R, Y), 0, 0) (fun _ => rfl) ?_
        refine yi_D_callv rfl (q_emit hW41) ?_
        rintro _ ⟨I44, rfl, hE45⟩
        have hW46 := mt_W_t hW41 (mt_E_F hE45)
        have hf47 : 0 < I44 82 8 := by rw [hE45.1 82 8 (by omega)]; exact hn42
        have he48 := (hE45.1 82 8 (by omega)).trans he30
        show yi_D zi_Ms d zi_m102 k (72, [(0, .inr (.inr (some 82)))], [], (I44, L, R, Y), 0, 0) _
        refine yi_D_retv rfl ?_
        exact ⟨_, _, rfl, ⟨fun p k hp => by rw [((mt_E_F hE45)).1 p k (by omega), (hFr18).1 p k (by omega), ← w11, yi_u_ne _ _ (by omega), hGn5 p k (by omega)], fun p k hp => rfl⟩, Or.inr ⟨_, hx43, hz29, he48⟩⟩
    · refine yi_D_if1 false rfl (yi_lt_f h2) ?_
      refine yi_D_run 2 (29, [(0, .inr (.inr (some 82)))], [.inl 3, .inr (.inr (some 82))], (I, L, R, Y), 0, 0) (fun _ => rfl) ?_
      refine yi_D_callv rfl (q_wrong_z ⟨by omega, by omega⟩ hW hf hA) ?_
      rintro _ ⟨I49, rfl, hg50, he51⟩
      have hGw52 : mt_G I I49 := fun p k hp => hg50 p k (by omega)
      have hW53 := mt_W_t hW (mt_G_F hGw52)
      have hmc54 := mc_G hm hGw52
      have hz55 : 0 < sp_f P a 3 := mt_f_ne hW hA.2 (by omega)
      have hn56 : 0 < I49 82 8 := by rw [he51]; exact hz55
      have hx57 : sp_R K P V (2, a, 0, [], ld, nm, cs) (.inr (sp_f P a 3)) := sp_R_1 (by
        show sp_line K P V a ld nm cs = _
        first
        | (exfalso; omega)
        | (unfold sp_line; (repeat (first | rw [if_pos (by omega)] | rw [if_neg (by omega)])); done))
      show yi_D zi_Ms d zi_m102 k (32, [(0, .inr (.inr (some 82)))], [], (I49, L, R, Y), 0, 0) _
      refine yi_D_run 1 (33, [(0, .inr (.inr (some 82)))], [.inr (.inr (some 82))], (I49, L, R, Y), 0, 0) (fun _ => rfl) ?_
      refine yi_D_gi (v := I49 82 8) rfl rfl rfl rfl (fun _ => ?_)
      have h58 : ¬ ((I49 82 8) ≤ 0) := by omega
      refine yi_D_if1 false rfl (yi_le_f h58) ?_
      refine yi_D_retv rfl ?_
      exact ⟨_, _, rfl, ⟨fun p k hp => by rw [hGw52 p k (by omega)], fun p k hp => rfl⟩, Or.inr ⟨_, hx57, hz55, he51⟩⟩
  · show yi_D zi_Ms d zi_m102 k (6, [(0, .inr (.inr (some 82)))], [.inl 0], (I, L, R, Y), 0, 0) _
    refine yi_D_if1 false rfl (by decide) ?_
    refine yi_D_run 2 (11, [(0, .inr (.inr (some 82)))], [.inl 1, .inr (.inr (some 82))], (I, L, R, Y), 0, 0) (fun _ => rfl) ?_
    refine yi_D_callv rfl (q_wrong_z ⟨by omega, by omega⟩ hW hf hA) ?_
    rintro _ ⟨I59, rfl, hg60, he61⟩
    have hGw62 : mt_G I I59 := fun p k hp => hg60 p k (by omega)
    have hW63 := mt_W_t hW (mt_G_F hGw62)
    have hmc64 := mc_G hm hGw62
    have hz65 : 0 < sp_f P a 1 := mt_f_ne hW hA.2 (by omega)
    have hn66 : 0 < I59 82 8 := by rw [he61]; exact hz65
    have hx67 : sp_R K P V (2, a, 0, [], ld, nm, cs) (.inr (sp_f P a 1)) := sp_R_1 (by
      show sp_line K P V a ld nm cs = _
      first
      | (exfalso; omega)
      | (unfold sp_line; (repeat (first | rw [if_pos (by omega)] | rw [if_neg (by omega)])); done))
    show yi_D zi_Ms d zi_m102 k (14, [(0, .inr (.inr (some 82)))], [], (I59, L, R, Y), 0, 0) _
    refine yi_D_run 2 (33, [(0, .inr (.inr (some 82)))], [.inr (.inr (some 82))], (I59, L, R, Y), 0, 0) (fun _ => rfl) ?_
    refine yi_D_gi (v := I59 82 8) rfl rfl rfl rfl (fun _ => ?_)
    have h68 : ¬ ((I59 82 8) ≤ 0) := by omega
    refine yi_D_if1 false rfl (yi_le_f h68) ?_
    refine yi_D_retv rfl ?_
    exact ⟨_, _, rfl, ⟨fun p k hp => by rw [hGw62 p k (by omega)], fun p k hp => rfl⟩, Or.inr ⟨_, hx67, hz65, he61⟩⟩
theorem q_readLineC {d : Nat} {I L : Nat → Nat → Int} {R : Nat → Nat → Option Nat} {Y : (Nat → Nat) × (Nat → Nat) × Nat} {K P V : Nat → Int} {te a : Nat} {ld : Nat → Int} {nm : Int → Int} (hW : mt_W I L R Y K P V te 50 ld nm) (hf : I 82 8 = 0) (hA : mt_A I te a) (cs : List (Int × Int)) (hd0 : 1 ≤ ld 0) (h6 : ld 6 < 0 → I 88 56 < 0) {gg : Nat → Int × Int} (hml : ml_S gg I ld cs) (hk : ¬ K a = 0) : yi_P zi_Ms d 99 [.inr (.inr (some 82))] (I, L, R, Y) (mt_QLC gg I L R Y K P V te (2, a, 0, [], ld, nm, cs) a) := by
  refine yi_P_of (M := zi_m99) rfl (fun d k => ?_)
  have hS := hW.1
  have ht := hW.2.1.1
  have ha := hA.2
  have hp := hW.2.1.2.1 a hA.2
  have hbd := hW.2.2.2.2.2.2.1
  have hc3 : I 88 56 < 0 → ld 6 < 0 := hW.2.2.2.2.1
  show yi_D zi_Ms d zi_m99 k (0, [(0, .inr (.inr (some 82)))], [], (I, L, R, Y), 0, 0) _
  refine yi_D_run 2 (2, [(0, .inr (.inr (some 82)))], [.inl 1, .inr (.inr (some 82))], (I, L, R, Y), 0, 0) (fun _ => rfl) ?_
  refine yi_D_callv rfl (q_isWord_z (by omega) (by omega) hW hf hA) ?_
  rintro _ (⟨c1, rfl⟩ | ⟨c1, rfl⟩)
  · show yi_D zi_Ms d zi_m99 k (5, [(0, .inr (.inr (some 82)))], [.inl 1], (I, L, R, Y), 0, 0) _
    refine yi_D_if1 false rfl (by decide) ?_
    refine yi_D_run 1 (9, [(0, .inr (.inr (some 82)))], [.inr (.inr (some 82))], (I, L, R, Y), 0, 0) (fun _ => rfl) ?_
    refine yi_D_callv rfl (q_readPersonC hW hf hA cs hd0 h6 hml (by omega)) ?_
    rintro _ ⟨I2, L3, rfl, hq4⟩
    show yi_D zi_Ms d zi_m99 k (12, [(0, .inr (.inr (some 82)))], [], (I2, L3, R, Y), 0, 0) _
    refine yi_D_run 1 (81, [(0, .inr (.inr (some 82)))], [], (I2, L3, R, Y), 0, 0) (fun _ => rfl) ?_
    refine yi_D_retv rfl ?_
    exact ⟨_, _, rfl, hq4⟩
  · show yi_D zi_Ms d zi_m99 k (5, [(0, .inr (.inr (some 82)))], [.inl 0], (I, L, R, Y), 0, 0) _
    refine yi_D_if1 true rfl (by decide) ?_
    refine yi_D_run 2 (17, [(0, .inr (.inr (some 82)))], [.inl 3, .inr (.inr (some 82))], (I, L, R, Y), 0, 0) (fun _ => rfl) ?_
    refine yi_D_callv rfl (q_isWord_z (by omega) (by omega) hW hf hA) ?_
    rintro _ (⟨c5, rfl⟩ | ⟨c5, rfl⟩)
    · show yi_D zi_Ms d zi_m99 k (20, [(0, .inr (.inr (some 82)))], [.inl 1], (I, L, R, Y), 0, 0) _
      refine yi_D_if1 false rfl (by decide) ?_
      refine yi_D_run 1 (24, [(0, .inr (.inr (some 82)))], [.inr (.inr (some 82))], (I, L, R, Y), 0, 0) (fun _ => rfl) ?_
      refine yi_D_callv rfl (q_readEventC hW hf hA cs hd0 h6 hml (by omega)) ?_
      rintro _ ⟨I6, L7, rfl, hq8⟩
      show yi_D zi_Ms d zi_m99 k (27, [(0, .inr (.inr (some 82)))], [], (I6, L7, R, Y), 0, 0) _
      refine yi_D_run 1 (81, [(0, .inr (.inr (some 82)))], [], (I6, L7, R, Y), 0, 0) (fun _ => rfl) ?_
      refine yi_D_retv rfl ?_
      exact ⟨_, _, rfl, hq8⟩
    · show yi_D zi_Ms d zi_m99 k (20, [(0, .inr (.inr (some 82)))], [.inl 0], (I, L, R, Y), 0, 0) _
      refine yi_D_if1 true rfl (by decide) ?_
      refine yi_D_run 2 (32, [(0, .inr (.inr (some 82)))], [.inl 4, .inr (.inr (some 82))], (I, L, R, Y), 0, 0) (fun _ => rfl) ?_
      refine yi_D_callv rfl (q_isWord_z (by omega) (by omega) hW hf hA) ?_
      rintro _ (⟨c9, rfl⟩ | ⟨c9, rfl⟩)
      · show yi_D zi_Ms d zi_m99 k (35, [(0, .inr (.inr (some 82)))], [.inl 1], (I, L, R, Y), 0, 0) _
        refine yi_D_if1 false rfl (by decide) ?_
        refine yi_D_run 1 (39, [(0, .inr (.inr (some 82)))], [.inr (.inr (some 82))], (I, L, R, Y), 0, 0) (fun _ => rfl) ?_
        refine yi_D_callv rfl (q_readProphetC hW hf hA cs hd0 h6 hml (by omega)) ?_
        rintro _ ⟨I10, L11, rfl, hq12⟩
        show yi_D zi_Ms d zi_m99 k (42, [(0, .inr (.inr (some 82)))], [], (I10, L11, R, Y), 0, 0) _
        refine yi_D_run 1 (81, [(0, .inr (.inr (some 82)))], [], (I10, L11, R, Y), 0, 0) (fun _ => rfl) ?_
        refine yi_D_retv rfl ?_
        exact ⟨_, _, rfl, hq12⟩
      · show yi_D zi_Ms d zi_m99 k (35, [(0, .inr (.inr (some 82)))], [.inl 0], (I, L, R, Y), 0, 0) _
        refine yi_D_if1 true rfl (by decide) ?_
        refine yi_D_run 2 (48, [(0, .inr (.inr (some 82)))], [.inl 6, .inr (.inr (some 82))], (I, L, R, Y), 0, 0) (fun _ => rfl) ?_
        refine yi_D_callv rfl (q_isWord_z (by omega) (by omega) hW hf hA) ?_
        rintro _ (⟨c13, rfl⟩ | ⟨c13, rfl⟩)
        · show yi_D zi_Ms d zi_m99 k (51, [(0, .inr (.inr (some 82)))], [.inl 1], (I, L, R, Y), 0, 0) _
          refine yi_D_if1 false rfl (by decide) ?_
          refine yi_D_run 1 (55, [(0, .inr (.inr (some 82)))], [.inr (.inr (some 82))], (I, L, R, Y), 0, 0) (fun _ => rfl) ?_
          refine yi_D_callv rfl (q_readLawC hW hf hA cs hd0 h6 hml (by omega)) ?_
          rintro _ ⟨I14, L15, rfl, hq16⟩
          show yi_D zi_Ms d zi_m99 k (58, [(0, .inr (.inr (some 82)))], [], (I14, L15, R, Y), 0, 0) _
          refine yi_D_run 1 (81, [(0, .inr (.inr (some 82)))], [], (I14, L15, R, Y), 0, 0) (fun _ => rfl) ?_
          refine yi_D_retv rfl ?_
          exact ⟨_, _, rfl, hq16⟩
        · show yi_D zi_Ms d zi_m99 k (51, [(0, .inr (.inr (some 82)))], [.inl 0], (I, L, R, Y), 0, 0) _
          refine yi_D_if1 true rfl (by decide) ?_
          refine yi_D_run 2 (64, [(0, .inr (.inr (some 82)))], [.inl 7, .inr (.inr (some 82))], (I, L, R, Y), 0, 0) (fun _ => rfl) ?_
          refine yi_D_callv rfl (q_isWord_z (by omega) (by omega) hW hf hA) ?_
          rintro _ (⟨c17, rfl⟩ | ⟨c17, rfl⟩)
          · show yi_D zi_Ms d zi_m99 k (67, [(0, .inr (.inr (some 82)))], [.inl 1], (I, L, R, Y), 0, 0) _
            refine yi_D_if1 false rfl (by decide) ?_
            refine yi_D_run 1 (71, [(0, .inr (.inr (some 82)))], [.inr (.inr (some 82))], (I, L, R, Y), 0, 0) (fun _ => rfl) ?_
            refine yi_D_callv rfl (q_readWishC hW hf hA cs hd0 h6 hml (by omega)) ?_
            rintro _ ⟨I18, L19, rfl, hq20⟩
            show yi_D zi_Ms d zi_m99 k (74, [(0, .inr (.inr (some 82)))], [], (I18, L19, R, Y), 0, 0) _
            refine yi_D_run 1 (81, [(0, .inr (.inr (some 82)))], [], (I18, L19, R, Y), 0, 0) (fun _ => rfl) ?_
            refine yi_D_retv rfl ?_
            exact ⟨_, _, rfl, hq20⟩
          · show yi_D zi_Ms d zi_m99 k (67, [(0, .inr (.inr (some 82)))], [.inl 0], (I, L, R, Y), 0, 0) _
            refine yi_D_if1 true rfl (by decide) ?_
            refine yi_D_run 1 (78, [(0, .inr (.inr (some 82)))], [.inr (.inr (some 82))], (I, L, R, Y), 0, 0) (fun _ => rfl) ?_
            refine yi_D_callv rfl (q_readPriceC hW hf hA cs hd0 h6 hml (by omega)) ?_
            rintro _ ⟨I21, L22, rfl, hq23⟩
            show yi_D zi_Ms d zi_m99 k (81, [(0, .inr (.inr (some 82)))], [], (I21, L22, R, Y), 0, 0) _
            refine yi_D_retv rfl ?_
            exact ⟨_, _, rfl, hq23⟩
