/-! The check: the futures of a land. -/
theorem ff_32 : ∀ ev : Nat, ev < 5 → ∀ m : Nat, m < 25 → ev ^ m ≤ 32768 → ev * m ≤ 32 := by decide
theorem ff_fn {ev : Nat} (h : 1 ≤ ev ∧ ev ≤ 4) : ∀ k : Nat, ev ^ k ≤ 32768 → ym_fn (ev : Int) k = ((ev ^ k : Nat) : Int)
  | 0, _ => rfl
  | k + 1, hk => by
    have hk0 : ev ^ k ≤ ev ^ (k + 1) := Nat.pow_le_pow_right h.1 (by omega)
    have ih := ff_fn h k (by omega)
    show (if 32768 < ym_fn (ev : Int) k then ym_fn (ev : Int) k else yi_W (ym_fn (ev : Int) k * ev)) = _
    rw [ih, if_neg (by omega), ← Int.natCast_mul, show ev ^ k * ev = ev ^ (k + 1) from rfl]
    unfold yi_W
    omega
theorem ff_fo {da pe ev m F : Nat} (bld : da ≤ 6 ∧ pe ≤ 4 ∧ ev ≤ 4) (hm : m = mny da pe ev) (hF : F = ev ^ m) (hF2 : F ≤ 32768) : ym_fo (da : Int) (pe : Int) (ev : Int) = (F : Int) := by
  unfold ym_fo
  dsimp only
  unfold mny at hm
  by_cases he : ev = 0
  · rw [if_pos he] at hm
    subst hm
    subst he
    rw [if_neg (by omega), hF]
    rfl
  · rw [if_neg he] at hm
    rw [if_pos (show (0 : Int) < (ev : Int) by omega), show ((da : Int) * pe).toNat = m by rw [hm, ← Int.natCast_mul]; rfl, ff_fn (by omega) m (by omega), ← hF, if_neg (show ¬ (32768 : Int) < (F : Int) by omega)]
    exact yi_wn (by omega) (by omega)
theorem ff_o {L L' : Nat → Nat → Int} {a b f f' : Nat} (h : ∀ p i, ¬ (p = 97 ∧ i = 512 * a + f / 64) → L' p i = L p i) (hab : ¬ b = a) (hf : f < 32768) (hf' : f' < 32768) : rbt L' b f' = rbt L b f' := by
  unfold rbt
  rw [h 97 _ (by omega)]
theorem ff_idx {ev k k' e e' : Nat} (he : e < ev) (he' : e' < ev) (h : ev * k + e = ev * k' + e') : k = k' ∧ e = e' := by
  have h1 : (ev * k + e) / ev = k := by rw [Nat.mul_add_div (by omega), Nat.div_eq_of_lt he]; rfl
  have h2 : (ev * k' + e') / ev = k' := by rw [Nat.mul_add_div (by omega), Nat.div_eq_of_lt he']; rfl
  have h3 : k = k' := by rw [← h1, h, h2]
  subst h3
  exact ⟨rfl, by omega⟩
theorem al_mo {f : Nat → Bool} {k : Nat} (h : al f k = false) : ∀ n, k ≤ n → al f n = false
  | 0, hn => by rw [show k = 0 by omega] at h; exact h
  | n + 1, hn => by
    by_cases c : k = n + 1
    · rw [← c]; exact h
    · show (al f n && f n) = false
      rw [al_mo h n (by omega)]
      rfl
theorem q_futuresOfN {d : Nat} {I L : Nat → Nat → Int} {R : Nat → Nat → Option Nat} {Y : (Nat → Nat) × (Nat → Nat) × Nat} (hS : ym_S (R, Y)) {da pe ev m F : Nat} (bld : da ≤ 6 ∧ pe ≤ 4 ∧ ev ≤ 4) (hm : m = mny da pe ev) (hF : F = ev ^ m) (hF2 : F ≤ 32768) : yi_P zi_Ms d 37 [.inl (da : Int), .inl (pe : Int), .inl (ev : Int)] (I, L, R, Y) (fun r => r = (some (.inl (F : Int)), (I, L, R, Y), 0, 0)) := by
  have hb : da * pe ≤ 6 * 4 := Nat.mul_le_mul bld.1 bld.2.1
  have hc : (da : Int) * pe = ((da * pe : Nat) : Int) := (Int.natCast_mul _ _).symm
  refine (yi_EP (c_futuresOf (X := (R, Y)) 1 (by omega) hS (by omega) (by omega))).imp (fun r e => ?_)
  rw [ff_fo bld hm hF hF2] at e
  exact e
theorem ff_ok {L L' : Nat → Nat → Int} {a b f n : Nat} (h : ∀ p i, ¬ (p = 97 ∧ i = 512 * a + f / 64) → L' p i = L p i) (hab : ¬ b = a) (hn : n ≤ 512 ∧ f < 32768) (hk : rok L b n) : rok L' b n := fun k hk2 => by
  rw [h 97 _ (by omega)]
  exact hk k hk2
theorem ff_o2 {L L' : Nat → Nat → Int} {a b n f' : Nat} (h : ∀ p i, ¬ (p = 97 ∧ 512 * a ≤ i ∧ i < 512 * a + n) → L' p i = L p i) (hab : ¬ b = a) (hn : n ≤ 512) (hf' : f' < 64 * n) : rbt L' b f' = rbt L b f' := by
  unfold rbt
  rw [h 97 _ (by omega)]
theorem ff_ok2 {L L' : Nat → Nat → Int} {a b n : Nat} (h : ∀ p i, ¬ (p = 97 ∧ 512 * a ≤ i ∧ i < 512 * a + n) → L' p i = L p i) (hab : ¬ b = a) (hn : n ≤ 512) (hk : rok L b n) : rok L' b n := fun k hk2 => by
  rw [h 97 _ (by omega)]
  exact hk k hk2
theorem q_laysFormulaI {d : Nat} {I L : Nat → Nat → Int} {R : Nat → Nat → Option Nat} {Y : (Nat → Nat) × (Nat → Nat) × Nat} (hS : ym_S (R, Y)) {da pe ev m a fr N F n : Nat} {ki x : Int} {fa wv : Nat → Int} (hx : x = (a : Int)) (hda : I 88 0 = (da : Int)) (hpe : I 88 1 = (pe : Int)) (hev : I 88 2 = (ev : Int)) (bld : da ≤ 6 ∧ pe ≤ 4 ∧ ev ≤ 4) (hm : m = mny da pe ev) (hF : I 82 24 = (F : Int)) (hF1 : 1 ≤ F ∧ F ≤ 32768) (h25 : I 82 25 = (n : Int)) (hn : F ≤ 64 * n ∧ n ≤ 512) (hpw : ∀ k, k < m → I 98 k = ((ev ^ (m - 1 - k) : Nat) : Int)) (hfa : ∀ j, j < 3 → I 95 j = fa j) (ha : a ≤ 311) (hp : pgF I pe ev da m F ki fa fr N wv) : yi_P zi_Ms d 75 [.inr (.inr (some 82)), .inl x, .inl (fr : Int), .inl ki] (I, L, R, Y) (fun r => ∃ I' L', r = (none, (I', L', R, Y), 0, 0) ∧ (∀ f, f < 64 * n → rbt L' a f = (!(decide (ki = 4) && nmg I fr N) && (decide (f < F) && (decide (¬ wv f = 0) != decide (ki = 2))))) ∧ rok L' a n ∧ (∀ p i, ¬ (p = 97 ∧ 512 * a ≤ i ∧ i < 512 * a + n) → L' p i = L p i) ∧ I' 82 28 = 0 ∧ ∀ p i, ¬ (p = 82 ∧ i = 28) → ¬ p = 96 → ¬ p = 99 → I' p i = I p i) := by
  subst hx
  exact q_laysFormula hS hda hpe hev bld hm hF hF1 h25 hn hpw hfa ha hp
theorem q_kindOfV {d : Nat} {I L : Nat → Nat → Int} {R : Nat → Nat → Option Nat} {Y : (Nat → Nat) × (Nat → Nat) × Nat} (hS : ym_S (R, Y)) {x v : Int} (hx : 0 ≤ x ∧ x ≤ 4) (h : I 88 (11 + 2 * x.toNat) = v) : yi_P zi_Ms d 70 [.inr (.inr (some 82)), .inl x] (I, L, R, Y) (fun r => r = (some (.inl v), (I, L, R, Y), 0, 0)) := by
  refine yi_P_of (M := zi_m70) rfl (fun d k => ?_)
  show yi_D zi_Ms d zi_m70 k (0, [(0, .inr (.inr (some 82))), (1, .inl x)], [], (I, L, R, Y), 0, 0) _
  refine yi_D_run 1 (1, [(0, .inr (.inr (some 82))), (1, .inl x)], [.inr (.inr (some 82))], (I, L, R, Y), 0, 0) (fun _ => rfl) ?_
  refine yi_D_gr (v := some 88) rfl rfl rfl (ym_S_at hS (j := 5) rfl).1 (fun _ => ?_)
  refine yi_D_run 3 (8, [(0, .inr (.inr (some 82))), (1, .inl x)], [.inl x, .inl 2, .inl 11, .inr (.inr (some 88))], (I, L, R, Y), 0, 0) (fun _ => rfl) ?_
  refine yi_D_imul rfl (2 * x) (yi_wn (by omega) (by omega)) ?_
  refine yi_D_iadd rfl (11 + (2 * x)) (yi_wn (by omega) (by omega)) ?_
  refine yi_D_il (v := I 88 ((11 + (2 * x)).toNat)) rfl rfl rfl (fun _ _ => ?_)
  refine yi_D_reti rfl ?_
  have e : I 88 ((11 + (2 * x)).toNat) = I 88 (11 + 2 * x.toNat) := congrArg (I 88) (by omega)
  rw [e, h]
theorem q_ffT {d k : Nat} {I L : Nat → Nat → Int} {R : Nat → Nat → Option Nat} {Y : (Nat → Nat) × (Nat → Nat) × Nat} (hS : ym_S (R, Y)) {da pe ev m F n nl nw : Nat} {fa : Nat → Int} {lf lN wf wN who : Nat → Nat} {lw ww : Nat → Nat → Int} {kd : Nat → Int} (hda : I 88 0 = (da : Int)) (hpe : I 88 1 = (pe : Int)) (hev : I 88 2 = (ev : Int)) (bld : da ≤ 6 ∧ pe ≤ 4 ∧ ev ≤ 4) (hm : m = mny da pe ev) (hF : F = ev ^ m) (hF2 : F ≤ 32768) (hn : n = (F + 63) / 64) (hnl : I 88 4 = (nl : Int)) (hnl4 : nl ≤ 4) (hnw : I 88 5 = (nw : Int)) (hnw6 : nw ≤ 6) (hlf : ∀ j, j < nl → I 88 (21 + j) = (lf j : Int)) (hwf : ∀ w, w < nw → I 88 (27 + 3 * w) = (wf w : Int)) (hwo : ∀ w, w < nw → I 88 (25 + 3 * w) = (who w : Int) ∧ who w ≤ 4 ∧ I 88 (11 + 2 * who w) = kd w) (hfa : ∀ j, j < 3 → I 95 j = fa j) (hpl : ∀ j, j < nl → pgF I pe ev da m F 0 fa (lf j) (lN j) (lw j)) (hpw : ∀ w, w < nw → pgF I pe ev da m F (kd w) fa (wf w) (wN w) (ww w)) (h28 : I 82 28 = 0) : yi_D zi_Ms d zi_m32 k (21, [(1, .inl (m : Int)), (0, .inr (.inr (some 82)))], [], (I, L, R, Y), 0, 0) (fun r => ∃ I' L', r = (none, (I', L', R, Y), 0, 0) ∧ (∀ k e f, k < m → e < ev → f < 64 * n → rbt L' (ev * k + e) f = (decide (f < F) && decide (dg ev m f k = e))) ∧ (∀ f, f < 64 * n → rbt L' 32 f = (decide (f < F) && al (fun j => decide (¬ lw j f = 0)) nl)) ∧ (∀ w f, w < nw → f < 64 * n → rbt L' (40 + w) f = (!(decide (kd w = 4) && nmg I (wf w) (wN w)) && (decide (f < F) && (decide (¬ ww w f = 0) != decide (kd w = 2))))) ∧ (∀ a, a ≤ 32 → rok L' a n) ∧ (∀ w, w < nw → rok L' (40 + w) n) ∧ (I' 82 24 = (F : Int) ∧ I' 82 25 = (n : Int) ∧ I' 82 28 = 0 ∧ ∀ k, k < m → I' 98 k = ((ev ^ (m - 1 - k) : Nat) : Int))) := by
  have hF1 : 1 ≤ F := by
    rw [hF]
    by_cases he : ev = 0
    · unfold mny at hm
      rw [if_pos he] at hm
      rw [hm]
      exact Nat.le_refl 1
    · exact Nat.pow_pos (by omega)
  have hev0 : 0 < m → 0 < ev := fun h => by
    unfold mny at hm
    by_cases he : ev = 0
    · rw [if_pos he] at hm; omega
    · omega
  have hm24 : m ≤ 24 := by
    have : da * pe ≤ 6 * 4 := Nat.mul_le_mul bld.1 bld.2.1
    unfold mny at hm
    by_cases he : ev = 0
    · rw [if_pos he] at hm; omega
    · rw [if_neg he] at hm; omega
  have h32 := ff_32 ev (by omega) m (by omega) (by omega)
  refine yi_D_run 2 (23, [(1, .inl (m : Int)), (0, .inr (.inr (some 82)))], [.inr (.inr (some 82)), .inr (.inr (some 82))], (I, L, R, Y), 0, 0) (fun _ => rfl) ?_
  refine yi_D_callv rfl (q_days (v := (da : Int)) hS hda) ?_
  rintro _ rfl
  show yi_D zi_Ms d zi_m32 k (26, [(1, .inl (m : Int)), (0, .inr (.inr (some 82)))], [.inl (da : Int), .inr (.inr (some 82))], (I, L, R, Y), 0, 0) _
  refine yi_D_run 1 (27, [(1, .inl (m : Int)), (0, .inr (.inr (some 82)))], [.inr (.inr (some 82)), .inl (da : Int), .inr (.inr (some 82))], (I, L, R, Y), 0, 0) (fun _ => rfl) ?_
  refine yi_D_callv rfl (q_people (n1 := (pe : Int)) hS hpe) ?_
  rintro _ rfl
  show yi_D zi_Ms d zi_m32 k (30, [(1, .inl (m : Int)), (0, .inr (.inr (some 82)))], [.inl (pe : Int), .inl (da : Int), .inr (.inr (some 82))], (I, L, R, Y), 0, 0) _
  refine yi_D_run 1 (31, [(1, .inl (m : Int)), (0, .inr (.inr (some 82)))], [.inr (.inr (some 82)), .inl (pe : Int), .inl (da : Int), .inr (.inr (some 82))], (I, L, R, Y), 0, 0) (fun _ => rfl) ?_
  refine yi_D_callv rfl (q_events (v := (ev : Int)) hS hev) ?_
  rintro _ rfl
  show yi_D zi_Ms d zi_m32 k (34, [(1, .inl (m : Int)), (0, .inr (.inr (some 82)))], [.inl (ev : Int), .inl (pe : Int), .inl (da : Int), .inr (.inr (some 82))], (I, L, R, Y), 0, 0) _
  refine yi_D_calls rfl (q_futuresOfN hS bld hm hF hF2) ?_
  rintro _ rfl
  show yi_D zi_Ms d zi_m32 k (37, [(1, .inl (m : Int)), (0, .inr (.inr (some 82)))], [.inl (F : Int), .inr (.inr (some 82))], (I, L, R, Y), 0, 0) _
  refine yi_D_pi rfl (fun _ => ?_)
  generalize w2 : yi_u I 82 24 (F : Int) = I1
  refine yi_D_run 2 (42, [(1, .inl (m : Int)), (0, .inr (.inr (some 82)))], [.inr (.inr (some 82)), .inr (.inr (some 82))], (I1, L, R, Y), 0, 0) (fun _ => rfl) ?_
  have r3 : I1 82 24 = (F : Int) := by rw [← w2, yi_u_eq]
  refine yi_D_gi (v := (F : Int)) rfl rfl rfl r3 (fun _ => ?_)
  refine yi_D_run 1 (47, [(1, .inl (m : Int)), (0, .inr (.inr (some 82)))], [.inl 63, .inl (F : Int), .inr (.inr (some 82))], (I1, L, R, Y), 0, 0) (fun _ => rfl) ?_
  refine yi_D_iadd rfl ((F : Int) + 63) (yi_wn (by omega) (by omega)) ?_
  refine yi_D_run 1 (50, [(1, .inl (m : Int)), (0, .inr (.inr (some 82)))], [.inl 64, .inl ((F : Int) + 63), .inr (.inr (some 82))], (I1, L, R, Y), 0, 0) (fun _ => rfl) ?_
  refine yi_D_idiv rfl (by omega) (((F : Int) + 63) / 64) (yi_dv (by omega) rfl (by omega) (by omega)) ?_
  refine yi_D_pi rfl (fun _ => ?_)
  generalize w5 : yi_u I1 82 25 (((F : Int) + 63) / 64) = I4
  have h25 : I4 82 25 = (n : Int) := by rw [← w5, yi_u_eq]; omega
  refine yi_D_run 4 (58, [(2, .inl 1), (1, .inl (m : Int)), (0, .inr (.inr (some 82)))], [.inl 1, .inl (m : Int)], (I4, L, R, Y), 0, 0) (fun _ => rfl) ?_
  refine yi_D_isub rfl ((m : Int) - 1) (yi_wn (by omega) (by omega)) ?_
  refine yi_D_run 1 (60, [(3, .inl ((m : Int) - 1)), (2, .inl 1), (1, .inl (m : Int)), (0, .inr (.inr (some 82)))], [], (I4, L, R, Y), 0, 0) (fun _ => rfl) ?_
  have pt60 : ∀ j60, j60 ≤ k → ∀ (y3 : Int) (y2 : Int) (J0 : Nat → Nat → Int), (-1 ≤ y3 ∧ y3 < m) → (y2 = ((ev ^ ((m : Int) - 1 - y3).toNat : Nat) : Int)) → (∀ k : Nat, y3 < (k : Int) → k < m → J0 98 k = ((ev ^ (m - 1 - k) : Nat) : Int)) → (∀ p i, ¬ p = 98 → J0 p i = I4 p i) → yi_D zi_Ms d zi_m32 j60 (60, [(3, .inl y3), (2, .inl y2), (1, .inl (m : Int)), (0, .inr (.inr (some 82)))], [], (J0, L, R, Y), 0, 0) (fun r => ∃ I' L', r = (none, (I', L', R, Y), 0, 0) ∧ (∀ k e f, k < m → e < ev → f < 64 * n → rbt L' (ev * k + e) f = (decide (f < F) && decide (dg ev m f k = e))) ∧ (∀ f, f < 64 * n → rbt L' 32 f = (decide (f < F) && al (fun j => decide (¬ lw j f = 0)) nl)) ∧ (∀ w f, w < nw → f < 64 * n → rbt L' (40 + w) f = (!(decide (kd w = 4) && nmg I (wf w) (wN w)) && (decide (f < F) && (decide (¬ ww w f = 0) != decide (kd w = 2))))) ∧ (∀ a, a ≤ 32 → rok L' a n) ∧ (∀ w, w < nw → rok L' (40 + w) n) ∧ (I' 82 24 = (F : Int) ∧ I' 82 25 = (n : Int) ∧ I' 82 28 = 0 ∧ ∀ k, k < m → I' 98 k = ((ev ^ (m - 1 - k) : Nat) : Int))) := by
    intro j60
    induction j60 with
    | zero => intros; exact yi_D_0
    | succ j60 ih60 =>
    intro hk60 y3 y2 J0 hy3 hy2 hp0 hf0
    refine yi_D_run1 0 (61, [(3, .inl y3), (2, .inl y2), (1, .inl (m : Int)), (0, .inr (.inr (some 82)))], [.inl y3], (J0, L, R, Y), 0, 0) (fun _ => rfl) ?_
    by_cases h6 : y3 < 0
    · refine yi_D_if1 true rfl (yi_lt_t h6) ?_
      refine yi_D_run 2 (86, [(3, .inl y3), (2, .inl y2), (1, .inl (m : Int)), (0, .inr (.inr (some 82)))], [.inl 0, .inr (.inr (some 82))], (J0, L, R, Y), 0, 0) (fun _ => rfl) ?_
      refine yi_D_pi rfl (fun _ => ?_)
      generalize w8 : yi_u J0 82 20 0 = I7
      have b88 : ∀ i, I7 88 i = I 88 i := fun i => by rw [← w8, yi_u_ne _ _ (by omega), hf0 88 i (by omega), ← w5, yi_u_ne _ _ (by omega), ← w2, yi_u_ne _ _ (by omega)]
      have b89 : ∀ i, I7 89 i = I 89 i := fun i => by rw [← w8, yi_u_ne _ _ (by omega), hf0 89 i (by omega), ← w5, yi_u_ne _ _ (by omega), ← w2, yi_u_ne _ _ (by omega)]
      have b90 : ∀ i, I7 90 i = I 90 i := fun i => by rw [← w8, yi_u_ne _ _ (by omega), hf0 90 i (by omega), ← w5, yi_u_ne _ _ (by omega), ← w2, yi_u_ne _ _ (by omega)]
      have b95 : ∀ i, I7 95 i = I 95 i := fun i => by rw [← w8, yi_u_ne _ _ (by omega), hf0 95 i (by omega), ← w5, yi_u_ne _ _ (by omega), ← w2, yi_u_ne _ _ (by omega)]
      have b28 : I7 82 28 = 0 := by rw [← w8, yi_u_ne _ _ (by omega), hf0 82 28 (by omega), ← w5, yi_u_ne _ _ (by omega), ← w2, yi_u_ne _ _ (by omega)]; exact h28
      have b25 : I7 82 25 = (n : Int) := by rw [← w8, yi_u_ne _ _ (by omega), hf0 82 25 (by omega)]; exact h25
      have b24 : I7 82 24 = (F : Int) := by rw [← w8, yi_u_ne _ _ (by omega), hf0 82 24 (by omega), ← w5, yi_u_ne _ _ (by omega), ← w2, yi_u_eq]
      have b98 : ∀ k, k < m → I7 98 k = ((ev ^ (m - 1 - k) : Nat) : Int) := fun k hk => by rw [← w8, yi_u_ne _ _ (by omega)]; exact hp0 k (by omega) hk
      have b20 : I7 82 20 = 0 := by rw [← w8, yi_u_eq]
      refine yi_D_run 2 (91, [(3, .inl 0), (2, .inl y2), (1, .inl (m : Int)), (0, .inr (.inr (some 82)))], [], (I7, L, R, Y), 0, 0) (fun _ => rfl) ?_
      have pt91 : ∀ j91, j91 ≤ j60 → ∀ (y3b : Int) (G0 : Nat → Nat → Int), (0 ≤ y3b ∧ y3b ≤ 32) → (∀ a k : Nat, (a : Int) < y3b → k < n → G0 97 (512 * a + k) = 0) → yi_D zi_Ms d zi_m32 j91 (91, [(3, .inl y3b), (2, .inl y2), (1, .inl (m : Int)), (0, .inr (.inr (some 82)))], [], (I7, G0, R, Y), 0, 0) (fun r => ∃ I' L', r = (none, (I', L', R, Y), 0, 0) ∧ (∀ k e f, k < m → e < ev → f < 64 * n → rbt L' (ev * k + e) f = (decide (f < F) && decide (dg ev m f k = e))) ∧ (∀ f, f < 64 * n → rbt L' 32 f = (decide (f < F) && al (fun j => decide (¬ lw j f = 0)) nl)) ∧ (∀ w f, w < nw → f < 64 * n → rbt L' (40 + w) f = (!(decide (kd w = 4) && nmg I (wf w) (wN w)) && (decide (f < F) && (decide (¬ ww w f = 0) != decide (kd w = 2))))) ∧ (∀ a, a ≤ 32 → rok L' a n) ∧ (∀ w, w < nw → rok L' (40 + w) n) ∧ (I' 82 24 = (F : Int) ∧ I' 82 25 = (n : Int) ∧ I' 82 28 = 0 ∧ ∀ k, k < m → I' 98 k = ((ev ^ (m - 1 - k) : Nat) : Int))) := by
        intro j91
        induction j91 with
        | zero => intros; exact yi_D_0
        | succ j91 ih91 =>
        intro hk91 y3b G0 hy3b hz0
        refine yi_D_run1 1 (94, [(3, .inl y3b), (2, .inl y2), (1, .inl (m : Int)), (0, .inr (.inr (some 82)))], [.inl 32, .inl y3b], (I7, G0, R, Y), 0, 0) (fun _ => rfl) ?_
        by_cases h9 : 32 ≤ y3b
        · refine yi_D_if2 true rfl (yi_ge_t h9) ?_
          refine yi_D_run 2 (111, [(3, .inl y3b), (2, .inl y2), (1, .inl (m : Int)), (0, .inr (.inr (some 82)))], [.inl 32, .inr (.inr (some 82))], (I7, G0, R, Y), 0, 0) (fun _ => rfl) ?_
          refine yi_D_callv rfl (q_clears (a := 32) (n := n) hS (by omega) (by omega) b25 (by omega)) ?_
          rintro _ ⟨L10, rfl, a11, b12⟩
          show yi_D zi_Ms d zi_m32 j91 (114, [(3, .inl y3b), (2, .inl y2), (1, .inl (m : Int)), (0, .inr (.inr (some 82)))], [], (I7, L10, R, Y), 0, 0) _
          refine yi_D_run 2 (116, [(3, .inl 0), (2, .inl y2), (1, .inl (m : Int)), (0, .inr (.inr (some 82)))], [], (I7, L10, R, Y), 0, 0) (fun _ => rfl) ?_
          have pt116 : ∀ j116, j116 ≤ j91 → ∀ (y3 : Int) (z4a : Int) (z5a : Int) (J1 : Nat → Nat → Int) (G1 : Nat → Nat → Int), (0 ≤ y3 ∧ y3 ≤ (F : Int)) → (∀ k e f : Nat, k < m → e < ev → f < 64 * n → rbt G1 (ev * k + e) f = (decide ((f : Int) < y3) && decide (dg ev m f k = e))) → (∀ f : Nat, f < 64 * n → rbt G1 32 f = (decide ((f : Int) < y3) && al (fun j => decide (¬ lw j f = 0)) nl)) → (∀ a, a ≤ 32 → rok G1 a n) → (∀ p i, (¬ p = 96 ∧ ¬ p = 99) → J1 p i = I7 p i) → yi_D zi_Ms d zi_m32 j116 (116, [(3, .inl y3), (2, .inl y2), (1, .inl (m : Int)), (0, .inr (.inr (some 82))), (4, .inl z4a), (5, .inl z5a)], [], (J1, G1, R, Y), 0, 0) (fun r => ∃ I' L', r = (none, (I', L', R, Y), 0, 0) ∧ (∀ k e f, k < m → e < ev → f < 64 * n → rbt L' (ev * k + e) f = (decide (f < F) && decide (dg ev m f k = e))) ∧ (∀ f, f < 64 * n → rbt L' 32 f = (decide (f < F) && al (fun j => decide (¬ lw j f = 0)) nl)) ∧ (∀ w f, w < nw → f < 64 * n → rbt L' (40 + w) f = (!(decide (kd w = 4) && nmg I (wf w) (wN w)) && (decide (f < F) && (decide (¬ ww w f = 0) != decide (kd w = 2))))) ∧ (∀ a, a ≤ 32 → rok L' a n) ∧ (∀ w, w < nw → rok L' (40 + w) n) ∧ (I' 82 24 = (F : Int) ∧ I' 82 25 = (n : Int) ∧ I' 82 28 = 0 ∧ ∀ k, k < m → I' 98 k = ((ev ^ (m - 1 - k) : Nat) : Int))) := by
            intro j116
            induction j116 with
            | zero => intros; exact yi_D_0
            | succ j116 ih116 =>
            intro hk116 y3 z4a z5a J1 G1 hy3c hw hl hok hIf
            have j88 : ∀ i, J1 88 i = I 88 i := fun i => (hIf 88 i (by omega)).trans (b88 i)
            have jF : J1 82 24 = (F : Int) := (hIf 82 24 (by omega)).trans b24
            refine yi_D_run1 1 (118, [(3, .inl y3), (2, .inl y2), (1, .inl (m : Int)), (0, .inr (.inr (some 82))), (4, .inl z4a), (5, .inl z5a)], [.inr (.inr (some 82)), .inl y3], (J1, G1, R, Y), 0, 0) (fun _ => rfl) ?_
            refine yi_D_gi (v := (F : Int)) rfl rfl rfl jF (fun _ => ?_)
            by_cases h13 : (F : Int) ≤ y3
            · refine yi_D_if2 true rfl (yi_ge_t h13) ?_
              refine yi_D_run 2 (236, [(3, .inl 0), (2, .inl y2), (1, .inl (m : Int)), (0, .inr (.inr (some 82))), (4, .inl z4a), (5, .inl z5a)], [], (J1, G1, R, Y), 0, 0) (fun _ => rfl) ?_
              have pt236 : ∀ j236, j236 ≤ j116 → ∀ (y3w : Int) (z4w : Int) (J3 : Nat → Nat → Int) (G3 : Nat → Nat → Int), (0 ≤ y3w ∧ y3w ≤ (nw : Int)) → (∀ k e f : Nat, k < m → e < ev → f < 64 * n → rbt G3 (ev * k + e) f = (decide (f < F) && decide (dg ev m f k = e))) → (∀ f : Nat, f < 64 * n → rbt G3 32 f = (decide (f < F) && al (fun j => decide (¬ lw j f = 0)) nl)) → (∀ w f : Nat, (w : Int) < y3w → f < 64 * n → rbt G3 (40 + w) f = (!(decide (kd w = 4) && nmg I (wf w) (wN w)) && (decide (f < F) && (decide (¬ ww w f = 0) != decide (kd w = 2))))) → (∀ a, a ≤ 32 → rok G3 a n) → (∀ w : Nat, (w : Int) < y3w → rok G3 (40 + w) n) → (∀ p i, (¬ (p = 82 ∧ i = 28) ∧ ¬ p = 96 ∧ ¬ p = 99) → J3 p i = I7 p i) → (J3 82 28 = 0) → yi_D zi_Ms d zi_m32 j236 (236, [(3, .inl y3w), (2, .inl y2), (1, .inl (m : Int)), (0, .inr (.inr (some 82))), (4, .inl z4w), (5, .inl z5a)], [], (J3, G3, R, Y), 0, 0) (fun r => ∃ I' L', r = (none, (I', L', R, Y), 0, 0) ∧ (∀ k e f, k < m → e < ev → f < 64 * n → rbt L' (ev * k + e) f = (decide (f < F) && decide (dg ev m f k = e))) ∧ (∀ f, f < 64 * n → rbt L' 32 f = (decide (f < F) && al (fun j => decide (¬ lw j f = 0)) nl)) ∧ (∀ w f, w < nw → f < 64 * n → rbt L' (40 + w) f = (!(decide (kd w = 4) && nmg I (wf w) (wN w)) && (decide (f < F) && (decide (¬ ww w f = 0) != decide (kd w = 2))))) ∧ (∀ a, a ≤ 32 → rok L' a n) ∧ (∀ w, w < nw → rok L' (40 + w) n) ∧ (I' 82 24 = (F : Int) ∧ I' 82 25 = (n : Int) ∧ I' 82 28 = 0 ∧ ∀ k, k < m → I' 98 k = ((ev ^ (m - 1 - k) : Nat) : Int))) := by
                intro j236
                induction j236 with
                | zero => intros; exact yi_D_0
                | succ j236 ih236 =>
                intro hk236 y3w z4w J3 G3 hy3w hw2 hl2 hws hokA hokW hI3 h28c
                have n88 : ∀ i, J3 88 i = I 88 i := fun i => (hI3 88 i (by omega)).trans (b88 i)
                have nnw : J3 88 5 = (nw : Int) := (n88 5).trans hnw
                refine yi_D_run1 1 (238, [(3, .inl y3w), (2, .inl y2), (1, .inl (m : Int)), (0, .inr (.inr (some 82))), (4, .inl z4w), (5, .inl z5a)], [.inr (.inr (some 82)), .inl y3w], (J3, G3, R, Y), 0, 0) (fun _ => rfl) ?_
                refine yi_D_gr (v := some 88) rfl rfl rfl (ym_S_at hS (j := 5) rfl).1 (fun _ => ?_)
                refine yi_D_run 1 (242, [(3, .inl y3w), (2, .inl y2), (1, .inl (m : Int)), (0, .inr (.inr (some 82))), (4, .inl z4w), (5, .inl z5a)], [.inl 5, .inr (.inr (some 88)), .inl y3w], (J3, G3, R, Y), 0, 0) (fun _ => rfl) ?_
                refine yi_D_il (v := (nw : Int)) rfl rfl nnw (fun _ _ => ?_)
                by_cases h14 : (nw : Int) ≤ y3w
                · refine yi_D_if2 true rfl (yi_ge_t h14) ?_
                  refine yi_D_retv rfl ?_
                  exact ⟨_, _, rfl, hw2, hl2, fun w f hw hf => hws w f (by omega) hf, hokA, fun w hw => hokW w (by omega), (hI3 82 24 (by omega)).trans b24, (hI3 82 25 (by omega)).trans b25, h28c, fun k hk => (hI3 98 k (by omega)).trans (b98 k hk)⟩
                · refine yi_D_if2 false rfl (yi_ge_f h14) ?_
                  refine yi_D_run 1 (247, [(3, .inl y3w), (2, .inl y2), (1, .inl (m : Int)), (0, .inr (.inr (some 82))), (4, .inl z4w), (5, .inl z5a)], [.inr (.inr (some 82))], (J3, G3, R, Y), 0, 0) (fun _ => rfl) ?_
                  refine yi_D_gr (v := some 88) rfl rfl rfl (ym_S_at hS (j := 5) rfl).1 (fun _ => ?_)
                  refine yi_D_run 3 (254, [(3, .inl y3w), (2, .inl y2), (1, .inl (m : Int)), (0, .inr (.inr (some 82))), (4, .inl z4w), (5, .inl z5a)], [.inl y3w, .inl 3, .inl 25, .inr (.inr (some 88))], (J3, G3, R, Y), 0, 0) (fun _ => rfl) ?_
                  refine yi_D_imul rfl (3 * y3w) (yi_wn (by omega) (by omega)) ?_
                  refine yi_D_iadd rfl (25 + (3 * y3w)) (yi_wn (by omega) (by omega)) ?_
                  obtain ⟨hwo1, hwo2, hwo3⟩ := hwo y3w.toNat (by omega)
                  have hwho : J3 88 ((25 + (3 * y3w)).toNat) = (who y3w.toNat : Int) := by rw [show (25 + (3 * y3w)).toNat = 25 + 3 * y3w.toNat by omega, n88]; exact hwo1
                  refine yi_D_il (v := (who y3w.toNat : Int)) rfl rfl hwho (fun _ _ => ?_)
                  refine yi_D_run 4 (263, [(4, .inl (who y3w.toNat : Int)), (3, .inl y3w), (2, .inl y2), (1, .inl (m : Int)), (0, .inr (.inr (some 82))), (5, .inl z5a)], [.inl y3w, .inl 40, .inr (.inr (some 82))], (J3, G3, R, Y), 0, 0) (fun _ => rfl) ?_
                  refine yi_D_iadd rfl (40 + y3w) (yi_wn (by omega) (by omega)) ?_
                  refine yi_D_run 1 (265, [(4, .inl (who y3w.toNat : Int)), (3, .inl y3w), (2, .inl y2), (1, .inl (m : Int)), (0, .inr (.inr (some 82))), (5, .inl z5a)], [.inr (.inr (some 82)), .inl (40 + y3w), .inr (.inr (some 82))], (J3, G3, R, Y), 0, 0) (fun _ => rfl) ?_
                  refine yi_D_gr (v := some 88) rfl rfl rfl (ym_S_at hS (j := 5) rfl).1 (fun _ => ?_)
                  refine yi_D_run 3 (272, [(4, .inl (who y3w.toNat : Int)), (3, .inl y3w), (2, .inl y2), (1, .inl (m : Int)), (0, .inr (.inr (some 82))), (5, .inl z5a)], [.inl y3w, .inl 3, .inl 25, .inr (.inr (some 88)), .inl (40 + y3w), .inr (.inr (some 82))], (J3, G3, R, Y), 0, 0) (fun _ => rfl) ?_
                  refine yi_D_imul rfl (3 * y3w) (yi_wn (by omega) (by omega)) ?_
                  refine yi_D_iadd rfl (25 + (3 * y3w)) (yi_wn (by omega) (by omega)) ?_
                  refine yi_D_run 1 (275, [(4, .inl (who y3w.toNat : Int)), (3, .inl y3w), (2, .inl y2), (1, .inl (m : Int)), (0, .inr (.inr (some 82))), (5, .inl z5a)], [.inl 2, .inl (25 + (3 * y3w)), .inr (.inr (some 88)), .inl (40 + y3w), .inr (.inr (some 82))], (J3, G3, R, Y), 0, 0) (fun _ => rfl) ?_
                  refine yi_D_iadd rfl ((25 + (3 * y3w)) + 2) (yi_wn (by omega) (by omega)) ?_
                  have hwst : J3 88 (((25 + (3 * y3w)) + 2).toNat) = (wf y3w.toNat : Int) := by rw [show ((25 + (3 * y3w)) + 2).toNat = 27 + 3 * y3w.toNat by omega, n88]; exact hwf _ (by omega)
                  refine yi_D_il (v := (wf y3w.toNat : Int)) rfl rfl hwst (fun _ _ => ?_)
                  refine yi_D_run 2 (280, [(4, .inl (who y3w.toNat : Int)), (3, .inl y3w), (2, .inl y2), (1, .inl (m : Int)), (0, .inr (.inr (some 82))), (5, .inl z5a)], [.inl (who y3w.toNat : Int), .inr (.inr (some 82)), .inl (wf y3w.toNat : Int), .inl (40 + y3w), .inr (.inr (some 82))], (J3, G3, R, Y), 0, 0) (fun _ => rfl) ?_
                  refine yi_D_callv rfl (q_kindOfV (v := kd y3w.toNat) hS (by omega) (by rw [n88]; exact hwo3)) ?_
                  rintro _ rfl
                  show yi_D zi_Ms d zi_m32 j236 (283, [(4, .inl (who y3w.toNat : Int)), (3, .inl y3w), (2, .inl y2), (1, .inl (m : Int)), (0, .inr (.inr (some 82))), (5, .inl z5a)], [.inl (kd y3w.toNat), .inl (wf y3w.toNat : Int), .inl (40 + y3w), .inr (.inr (some 82))], (J3, G3, R, Y), 0, 0) _
                  have hpg : pgF J3 pe ev da m F (kd y3w.toNat) fa (wf y3w.toNat) (wN y3w.toNat) (ww y3w.toNat) := fun f hf => by
                    obtain ⟨hcl, sk, h⟩ := hpw y3w.toNat (by omega) f hf
                    exact ⟨hcl, sk, pgS_t h (fun k => (hI3 89 k (by omega)).trans (b89 k)) (fun k => (hI3 90 k (by omega)).trans (b90 k))⟩
                  have enm : nmg J3 (wf y3w.toNat) (wN y3w.toNat) = nmg I (wf y3w.toNat) (wN y3w.toNat) := nmg_t (fun k => (hI3 89 k (by omega)).trans (b89 k)) (fun k => (hI3 90 k (by omega)).trans (b90 k)) _
                  refine yi_D_callv rfl (q_laysFormulaI (a := 40 + y3w.toNat) (n := n) (m := m) hS (by omega) ((n88 0).trans hda) ((n88 1).trans hpe) ((n88 2).trans hev) bld hm ((hI3 82 24 (by omega)).trans b24) ⟨hF1, hF2⟩ ((hI3 82 25 (by omega)).trans b25) (by omega) (fun k hk => (hI3 98 k (by omega)).trans (b98 k hk)) (fun j hj => (hI3 95 j (by omega)).trans ((b95 j).trans (hfa j hj))) (by omega) hpg) ?_
                  rintro _ ⟨I15, L16, rfl, a17, b18, c19, e20, f21⟩
                  show yi_D zi_Ms d zi_m32 j236 (286, [(4, .inl (who y3w.toNat : Int)), (3, .inl y3w), (2, .inl y2), (1, .inl (m : Int)), (0, .inr (.inr (some 82))), (5, .inl z5a)], [], (I15, L16, R, Y), 0, 0) _
                  refine yi_D_iinc [(3, .inl (y3w + 1)), (4, .inl (who y3w.toNat : Int)), (2, .inl y2), (1, .inl (m : Int)), (0, .inr (.inr (some 82))), (5, .inl z5a)] rfl rfl rfl (by rw [show yi_w (y3w + 1) = y3w + 1 from (yi_wn (by omega) (by omega)).trans (by omega)]; rfl) ?_
                  refine yi_D_run 1 (236, [(3, .inl (y3w + 1)), (4, .inl (who y3w.toNat : Int)), (2, .inl y2), (1, .inl (m : Int)), (0, .inr (.inr (some 82))), (5, .inl z5a)], [], (I15, L16, R, Y), 0, 0) (fun _ => rfl) ?_
                  refine yi_D_al (al := [(3, .inl (y3w + 1)), (2, .inl y2), (1, .inl (m : Int)), (0, .inr (.inr (some 82))), (4, .inl (who y3w.toNat : Int)), (5, .inl z5a)]) (show ([3, 2, 1, 0, 4, 5] : List Nat).Nodup by decide) (show ([3, 4, 2, 1, 0, 5] : List Nat).Nodup by decide) (yi_mc (List.mem_of_getElem? (i := 0) rfl) (yi_mc (List.mem_of_getElem? (i := 4) rfl) (yi_mc (List.mem_of_getElem? (i := 1) rfl) (yi_mc (List.mem_of_getElem? (i := 2) rfl) (yi_mc (List.mem_of_getElem? (i := 3) rfl) (yi_mc (List.mem_of_getElem? (i := 5) rfl) yi_mn)))))) ?_
                  exact yi_D_mono (ih236 (by omega) (y3w + 1) (who y3w.toNat : Int) I15 L16 (by omega) (fun k e f hk he hf => by have hx := wx_lt hk he; rw [ff_o2 c19 (by omega) (by omega) hf]; exact hw2 k e f hk he hf) (fun f hf => by rw [ff_o2 c19 (by omega) (by omega) hf]; exact hl2 f hf) (fun w f h hf => by by_cases e1 : w = y3w.toNat; rw [e1, a17 f hf, enm]; rw [ff_o2 c19 (by omega) (by omega) hf]; exact hws w f (by omega) hf) (fun a ha => ff_ok2 c19 (by omega) (by omega) (hokA a ha)) (fun w h => by by_cases e1 : w = y3w.toNat; rw [e1]; exact b18; exact ff_ok2 c19 (by omega) (by omega) (hokW w (by omega))) (fun p i h => (f21 p i h.1 h.2.1 h.2.2).trans (hI3 p i h)) e20) (by omega)
              exact pt236 j116 (Nat.le_refl _) 0 z4a J1 G1 (by omega) (fun k e f hk he hf => by rw [hw k e f hk he hf, show decide ((f : Int) < y3) = decide (f < F) by rw [decide_eq_decide]; omega]) (fun f hf => by rw [hl f hf, show decide ((f : Int) < y3) = decide (f < F) by rw [decide_eq_decide]; omega]) (fun w f h _ => absurd h (by omega)) hok (fun w h => absurd h (by omega)) (fun p i h => hIf p i ⟨h.2.1, h.2.2⟩) ((hIf 82 28 (by omega)).trans b28)
            · refine yi_D_if2 false rfl (yi_ge_f h13) ?_
              refine yi_D_run 2 (126, [(3, .inl y3), (2, .inl y2), (1, .inl (m : Int)), (0, .inr (.inr (some 82))), (4, .inl z4a), (5, .inl z5a)], [.inl y3, .inr (.inr (some 82))], (J1, G1, R, Y), 0, 0) (fun _ => rfl) ?_
              refine yi_D_callv rfl (q_laysFutureI (f := y3.toNat) (m := m) (show y3 = ((y3.toNat : Nat) : Int) by omega) hS ((j88 0).trans hda) ((j88 1).trans hpe) ((j88 2).trans hev) bld hm (by omega) (fun k hk => (hIf 98 k (by omega)).trans (b98 k hk))) ?_
              rintro _ ⟨I22, rfl, d23, fI24⟩
              show yi_D zi_Ms d zi_m32 j116 (129, [(3, .inl y3), (2, .inl y2), (1, .inl (m : Int)), (0, .inr (.inr (some 82))), (4, .inl z4a), (5, .inl z5a)], [], (I22, G1, R, Y), 0, 0) _
              refine yi_D_run 2 (132, [(4, .inl 0), (3, .inl y3), (2, .inl y2), (1, .inl (m : Int)), (0, .inr (.inr (some 82))), (5, .inl z5a)], [], (I22, G1, R, Y), 0, 0) (fun _ => rfl) ?_
              have pt132 : ∀ j132, j132 ≤ j116 → ∀ (y4 : Int) (z5 : Int) (G2 : Nat → Nat → Int), (0 ≤ y4 ∧ y4 ≤ (m : Int)) → (∀ k e f : Nat, k < m → e < ev → f < 64 * n → rbt G2 (ev * k + e) f = (rbt G1 (ev * k + e) f || (decide (f = y3.toNat) && (decide ((k : Int) < y4) && decide (dg ev m y3.toNat k = e))))) → (∀ f, f < 64 * n → rbt G2 32 f = rbt G1 32 f) → (∀ a, a ≤ 32 → rok G2 a n) → yi_D zi_Ms d zi_m32 j132 (132, [(4, .inl y4), (3, .inl y3), (2, .inl y2), (1, .inl (m : Int)), (0, .inr (.inr (some 82))), (5, .inl z5)], [], (I22, G2, R, Y), 0, 0) (fun r => ∃ I' L', r = (none, (I', L', R, Y), 0, 0) ∧ (∀ k e f, k < m → e < ev → f < 64 * n → rbt L' (ev * k + e) f = (decide (f < F) && decide (dg ev m f k = e))) ∧ (∀ f, f < 64 * n → rbt L' 32 f = (decide (f < F) && al (fun j => decide (¬ lw j f = 0)) nl)) ∧ (∀ w f, w < nw → f < 64 * n → rbt L' (40 + w) f = (!(decide (kd w = 4) && nmg I (wf w) (wN w)) && (decide (f < F) && (decide (¬ ww w f = 0) != decide (kd w = 2))))) ∧ (∀ a, a ≤ 32 → rok L' a n) ∧ (∀ w, w < nw → rok L' (40 + w) n) ∧ (I' 82 24 = (F : Int) ∧ I' 82 25 = (n : Int) ∧ I' 82 28 = 0 ∧ ∀ k, k < m → I' 98 k = ((ev ^ (m - 1 - k) : Nat) : Int))) := by
                intro j132
                induction j132 with
                | zero => intros; exact yi_D_0
                | succ j132 ih132 =>
                intro hk132 y4 z5 G2 hy4 hkk hx32 hok2
                refine yi_D_run1 1 (135, [(4, .inl y4), (3, .inl y3), (2, .inl y2), (1, .inl (m : Int)), (0, .inr (.inr (some 82))), (5, .inl z5)], [.inl (m : Int), .inl y4], (I22, G2, R, Y), 0, 0) (fun _ => rfl) ?_
                by_cases h25 : (m : Int) ≤ y4
                · refine yi_D_if2 true rfl (yi_ge_t h25) ?_
                  refine yi_D_run 4 (170, [(5, .inl 0), (4, .inl 1), (3, .inl y3), (2, .inl y2), (1, .inl (m : Int)), (0, .inr (.inr (some 82)))], [], (I22, G2, R, Y), 0, 0) (fun _ => rfl) ?_
                  have pt170 : ∀ j170, j170 ≤ j132 → ∀ (y5 : Int) (z4 : Int) (J2 : Nat → Nat → Int), (0 ≤ y5 ∧ y5 ≤ (nl : Int)) → ((z4 = 1 ∧ al (fun j => decide (¬ lw j y3.toNat = 0)) y5.toNat = true) ∨ (z4 = 0 ∧ al (fun j => decide (¬ lw j y3.toNat = 0)) nl = false)) → (∀ p i, ¬ p = 96 → J2 p i = I22 p i) → yi_D zi_Ms d zi_m32 j170 (170, [(5, .inl y5), (4, .inl z4), (3, .inl y3), (2, .inl y2), (1, .inl (m : Int)), (0, .inr (.inr (some 82)))], [], (J2, G2, R, Y), 0, 0) (fun r => ∃ I' L', r = (none, (I', L', R, Y), 0, 0) ∧ (∀ k e f, k < m → e < ev → f < 64 * n → rbt L' (ev * k + e) f = (decide (f < F) && decide (dg ev m f k = e))) ∧ (∀ f, f < 64 * n → rbt L' 32 f = (decide (f < F) && al (fun j => decide (¬ lw j f = 0)) nl)) ∧ (∀ w f, w < nw → f < 64 * n → rbt L' (40 + w) f = (!(decide (kd w = 4) && nmg I (wf w) (wN w)) && (decide (f < F) && (decide (¬ ww w f = 0) != decide (kd w = 2))))) ∧ (∀ a, a ≤ 32 → rok L' a n) ∧ (∀ w, w < nw → rok L' (40 + w) n) ∧ (I' 82 24 = (F : Int) ∧ I' 82 25 = (n : Int) ∧ I' 82 28 = 0 ∧ ∀ k, k < m → I' 98 k = ((ev ^ (m - 1 - k) : Nat) : Int))) := by
                    intro j170
                    induction j170 with
                    | zero => intros; exact yi_D_0
                    | succ j170 ih170 =>
                    intro hk170 y5 z4 J2 hy5 hz4 hJ2
                    have m88 : ∀ i, J2 88 i = I 88 i := fun i => (hJ2 88 i (by omega)).trans ((fI24 88 i (by omega)).trans (j88 i))
                    have mnl : J2 88 4 = (nl : Int) := (m88 4).trans hnl
                    refine yi_D_run1 1 (173, [(5, .inl y5), (4, .inl z4), (3, .inl y3), (2, .inl y2), (1, .inl (m : Int)), (0, .inr (.inr (some 82)))], [.inr (.inr (some 82)), .inl y5], (J2, G2, R, Y), 0, 0) (fun _ => rfl) ?_
                    refine yi_D_gr (v := some 88) rfl rfl rfl (ym_S_at hS (j := 5) rfl).1 (fun _ => ?_)
                    refine yi_D_run 1 (177, [(5, .inl y5), (4, .inl z4), (3, .inl y3), (2, .inl y2), (1, .inl (m : Int)), (0, .inr (.inr (some 82)))], [.inl 4, .inr (.inr (some 88)), .inl y5], (J2, G2, R, Y), 0, 0) (fun _ => rfl) ?_
                    refine yi_D_il (v := (nl : Int)) rfl rfl mnl (fun _ _ => ?_)
                    by_cases h26 : (nl : Int) ≤ y5
                    · refine yi_D_if2 true rfl (yi_ge_t h26) ?_
                      refine yi_D_run 1 (218, [(5, .inl y5), (4, .inl z4), (3, .inl y3), (2, .inl y2), (1, .inl (m : Int)), (0, .inr (.inr (some 82)))], [.inl z4], (J2, G2, R, Y), 0, 0) (fun _ => rfl) ?_
                      by_cases h27 : z4 = 0
                      · refine yi_D_if1 true rfl (yi_eq_t h27) ?_
                        have hfin : al (fun j => decide (¬ lw j y3.toNat = 0)) nl = false := by
                          rcases hz4 with ⟨h1, h2⟩ | ⟨h1, h2⟩
                          · exfalso
                            omega
                          · exact h2
                        refine yi_D_iinc [(3, .inl (y3 + 1)), (5, .inl y5), (4, .inl z4), (2, .inl y2), (1, .inl (m : Int)), (0, .inr (.inr (some 82)))] rfl rfl rfl (by rw [show yi_w (y3 + 1) = y3 + 1 from (yi_wn (by omega) (by omega)).trans (by omega)]; rfl) ?_
                        refine yi_D_run 1 (116, [(3, .inl (y3 + 1)), (5, .inl y5), (4, .inl z4), (2, .inl y2), (1, .inl (m : Int)), (0, .inr (.inr (some 82)))], [], (J2, G2, R, Y), 0, 0) (fun _ => rfl) ?_
                        refine yi_D_al (al := [(3, .inl (y3 + 1)), (2, .inl y2), (1, .inl (m : Int)), (0, .inr (.inr (some 82))), (4, .inl z4), (5, .inl y5)]) (show ([3, 2, 1, 0, 4, 5] : List Nat).Nodup by decide) (show ([3, 5, 4, 2, 1, 0] : List Nat).Nodup by decide) (yi_mc (List.mem_of_getElem? (i := 0) rfl) (yi_mc (List.mem_of_getElem? (i := 5) rfl) (yi_mc (List.mem_of_getElem? (i := 4) rfl) (yi_mc (List.mem_of_getElem? (i := 1) rfl) (yi_mc (List.mem_of_getElem? (i := 2) rfl) (yi_mc (List.mem_of_getElem? (i := 3) rfl) yi_mn)))))) ?_
                        exact yi_D_mono (ih116 (by omega) (y3 + 1) z4 y5 J2 G2 (by omega) (fun k e f hk he hf => by have hx := wx_lt hk he; rw [hkk k e f hk he hf, hw k e f hk he hf]; by_cases e1 : f = y3.toNat; rw [e1, decide_eq_false (show ¬ ((y3.toNat : Int) < y3) by omega), decide_eq_true (show ((y3.toNat : Int) < y3 + 1) by omega), decide_eq_true rfl, decide_eq_true (show (k : Int) < y4 by omega), Bool.false_and, Bool.false_or, Bool.true_and, Bool.true_and]; rw [decide_eq_false e1, Bool.false_and, Bool.or_false, show decide ((f : Int) < y3 + 1) = decide ((f : Int) < y3) by rw [decide_eq_decide]; omega]) (fun f hf => by rw [hx32 f hf, hl f hf]; by_cases e1 : f = y3.toNat; rw [e1, hfin, Bool.and_false, Bool.and_false]; rw [show decide ((f : Int) < y3 + 1) = decide ((f : Int) < y3) by rw [decide_eq_decide]; omega]) hok2 (fun p i h => (hJ2 p i h.1).trans ((fI24 p i h.2).trans (hIf p i h)))) (by omega)
                      · refine yi_D_if1 false rfl (yi_eq_f h27) ?_
                        refine yi_D_run 3 (225, [(5, .inl y5), (4, .inl z4), (3, .inl y3), (2, .inl y2), (1, .inl (m : Int)), (0, .inr (.inr (some 82)))], [.inl y3, .inl 32, .inr (.inr (some 82))], (J2, G2, R, Y), 0, 0) (fun _ => rfl) ?_
                        have hfin : al (fun j => decide (¬ lw j y3.toNat = 0)) nl = true := by
                          rcases hz4 with ⟨h1, h2⟩ | ⟨h1, h2⟩
                          · have e : y5.toNat = nl := by omega
                            rw [← e]; exact h2
                          · exact absurd h1 (by assumption)
                        refine yi_D_callv rfl (q_sets (a := 32) (f := y3.toNat) hS rfl (by omega) (by omega) (by omega)) ?_
                        rintro _ ⟨L28, rfl, a29, b30, c31⟩
                        show yi_D zi_Ms d zi_m32 j170 (228, [(5, .inl y5), (4, .inl z4), (3, .inl y3), (2, .inl y2), (1, .inl (m : Int)), (0, .inr (.inr (some 82)))], [], (J2, L28, R, Y), 0, 0) _
                        skip
                        refine yi_D_iinc [(3, .inl (y3 + 1)), (5, .inl y5), (4, .inl z4), (2, .inl y2), (1, .inl (m : Int)), (0, .inr (.inr (some 82)))] rfl rfl rfl (by rw [show yi_w (y3 + 1) = y3 + 1 from (yi_wn (by omega) (by omega)).trans (by omega)]; rfl) ?_
                        refine yi_D_run 1 (116, [(3, .inl (y3 + 1)), (5, .inl y5), (4, .inl z4), (2, .inl y2), (1, .inl (m : Int)), (0, .inr (.inr (some 82)))], [], (J2, L28, R, Y), 0, 0) (fun _ => rfl) ?_
                        refine yi_D_al (al := [(3, .inl (y3 + 1)), (2, .inl y2), (1, .inl (m : Int)), (0, .inr (.inr (some 82))), (4, .inl z4), (5, .inl y5)]) (show ([3, 2, 1, 0, 4, 5] : List Nat).Nodup by decide) (show ([3, 5, 4, 2, 1, 0] : List Nat).Nodup by decide) (yi_mc (List.mem_of_getElem? (i := 0) rfl) (yi_mc (List.mem_of_getElem? (i := 5) rfl) (yi_mc (List.mem_of_getElem? (i := 4) rfl) (yi_mc (List.mem_of_getElem? (i := 1) rfl) (yi_mc (List.mem_of_getElem? (i := 2) rfl) (yi_mc (List.mem_of_getElem? (i := 3) rfl) yi_mn)))))) ?_
                        exact yi_D_mono (ih116 (by omega) (y3 + 1) z4 y5 J2 L28 (by omega) (fun k e f hk he hf => by have hx := wx_lt hk he; rw [ff_o c31 (by omega) (by omega) (by omega)]; rw [hkk k e f hk he hf, hw k e f hk he hf]; by_cases e1 : f = y3.toNat; rw [e1, decide_eq_false (show ¬ ((y3.toNat : Int) < y3) by omega), decide_eq_true (show ((y3.toNat : Int) < y3 + 1) by omega), decide_eq_true rfl, decide_eq_true (show (k : Int) < y4 by omega), Bool.false_and, Bool.false_or, Bool.true_and, Bool.true_and]; rw [decide_eq_false e1, Bool.false_and, Bool.or_false, show decide ((f : Int) < y3 + 1) = decide ((f : Int) < y3) by rw [decide_eq_decide]; omega]) (fun f hf => by rw [a29 f, hx32 f hf, hl f hf]; by_cases e1 : f = y3.toNat; rw [e1, decide_eq_false (show ¬ ((y3.toNat : Int) < y3) by omega), decide_eq_true (show ((y3.toNat : Int) < y3 + 1) by omega), decide_eq_true rfl, Bool.false_and, Bool.false_or, Bool.true_and, hfin]; rw [decide_eq_false e1, Bool.or_false, show decide ((f : Int) < y3 + 1) = decide ((f : Int) < y3) by rw [decide_eq_decide]; omega]) (fun a ha => by by_cases e : a = 32; rw [e]; exact b30 n (hok2 32 (by omega)); exact ff_ok c31 e (by omega) (hok2 a ha)) (fun p i h => (hJ2 p i h.1).trans ((fI24 p i h.2).trans (hIf p i h)))) (by omega)
                    · refine yi_D_if2 false rfl (yi_ge_f h26) ?_
                      refine yi_D_run 1 (183, [(5, .inl y5), (4, .inl z4), (3, .inl y3), (2, .inl y2), (1, .inl (m : Int)), (0, .inr (.inr (some 82)))], [.inl z4], (J2, G2, R, Y), 0, 0) (fun _ => rfl) ?_
                      by_cases h32 : z4 = 0
                      · refine yi_D_if1 true rfl (yi_eq_t h32) ?_
                        refine yi_D_run 1 (218, [(5, .inl y5), (4, .inl z4), (3, .inl y3), (2, .inl y2), (1, .inl (m : Int)), (0, .inr (.inr (some 82)))], [.inl z4], (J2, G2, R, Y), 0, 0) (fun _ => rfl) ?_
                        have h33 : z4 = 0 := by omega
                        refine yi_D_if1 true rfl (yi_eq_t h33) ?_
                        have hfin : al (fun j => decide (¬ lw j y3.toNat = 0)) nl = false := by
                          rcases hz4 with ⟨h1, h2⟩ | ⟨h1, h2⟩
                          · exfalso
                            omega
                          · exact h2
                        refine yi_D_iinc [(3, .inl (y3 + 1)), (5, .inl y5), (4, .inl z4), (2, .inl y2), (1, .inl (m : Int)), (0, .inr (.inr (some 82)))] rfl rfl rfl (by rw [show yi_w (y3 + 1) = y3 + 1 from (yi_wn (by omega) (by omega)).trans (by omega)]; rfl) ?_
                        refine yi_D_run 1 (116, [(3, .inl (y3 + 1)), (5, .inl y5), (4, .inl z4), (2, .inl y2), (1, .inl (m : Int)), (0, .inr (.inr (some 82)))], [], (J2, G2, R, Y), 0, 0) (fun _ => rfl) ?_
                        refine yi_D_al (al := [(3, .inl (y3 + 1)), (2, .inl y2), (1, .inl (m : Int)), (0, .inr (.inr (some 82))), (4, .inl z4), (5, .inl y5)]) (show ([3, 2, 1, 0, 4, 5] : List Nat).Nodup by decide) (show ([3, 5, 4, 2, 1, 0] : List Nat).Nodup by decide) (yi_mc (List.mem_of_getElem? (i := 0) rfl) (yi_mc (List.mem_of_getElem? (i := 5) rfl) (yi_mc (List.mem_of_getElem? (i := 4) rfl) (yi_mc (List.mem_of_getElem? (i := 1) rfl) (yi_mc (List.mem_of_getElem? (i := 2) rfl) (yi_mc (List.mem_of_getElem? (i := 3) rfl) yi_mn)))))) ?_
                        exact yi_D_mono (ih116 (by omega) (y3 + 1) z4 y5 J2 G2 (by omega) (fun k e f hk he hf => by have hx := wx_lt hk he; rw [hkk k e f hk he hf, hw k e f hk he hf]; by_cases e1 : f = y3.toNat; rw [e1, decide_eq_false (show ¬ ((y3.toNat : Int) < y3) by omega), decide_eq_true (show ((y3.toNat : Int) < y3 + 1) by omega), decide_eq_true rfl, decide_eq_true (show (k : Int) < y4 by omega), Bool.false_and, Bool.false_or, Bool.true_and, Bool.true_and]; rw [decide_eq_false e1, Bool.false_and, Bool.or_false, show decide ((f : Int) < y3 + 1) = decide ((f : Int) < y3) by rw [decide_eq_decide]; omega]) (fun f hf => by rw [hx32 f hf, hl f hf]; by_cases e1 : f = y3.toNat; rw [e1, hfin, Bool.and_false, Bool.and_false]; rw [show decide ((f : Int) < y3 + 1) = decide ((f : Int) < y3) by rw [decide_eq_decide]; omega]) hok2 (fun p i h => (hJ2 p i h.1).trans ((fI24 p i h.2).trans (hIf p i h)))) (by omega)
                      · refine yi_D_if1 false rfl (yi_eq_f h32) ?_
                        refine yi_D_run 2 (188, [(5, .inl y5), (4, .inl z4), (3, .inl y3), (2, .inl y2), (1, .inl (m : Int)), (0, .inr (.inr (some 82)))], [.inr (.inr (some 82)), .inr (.inr (some 82))], (J2, G2, R, Y), 0, 0) (fun _ => rfl) ?_
                        refine yi_D_gr (v := some 88) rfl rfl rfl (ym_S_at hS (j := 5) rfl).1 (fun _ => ?_)
                        refine yi_D_run 2 (195, [(5, .inl y5), (4, .inl z4), (3, .inl y3), (2, .inl y2), (1, .inl (m : Int)), (0, .inr (.inr (some 82)))], [.inl y5, .inl 21, .inr (.inr (some 88)), .inr (.inr (some 82))], (J2, G2, R, Y), 0, 0) (fun _ => rfl) ?_
                        refine yi_D_iadd rfl (21 + y5) (yi_wn (by omega) (by omega)) ?_
                        have hlfj : J2 88 ((21 + y5).toNat) = (lf y5.toNat : Int) := by rw [show (21 + y5).toNat = 21 + y5.toNat by omega, m88]; exact hlf _ (by omega)
                        refine yi_D_il (v := (lf y5.toNat : Int)) rfl rfl hlfj (fun _ _ => ?_)
                        obtain ⟨hclf, skf, hpf⟩ := hpl y5.toNat (by omega) y3.toNat (by omega)
                        have hpg := pgS_vg (vg' := ¬ J2 82 28 = 0) (by rw [hJ2 82 28 (by omega), fI24 82 28 (by omega), hIf 82 28 (by omega), b28]; exact ⟨fun h => absurd h (by omega), fun h => absurd rfl h⟩) (pgS_c (h' := J2 99) (pgS_t (J := J2) hpf (fun k => (hJ2 89 k (by omega)).trans ((fI24 89 k (by omega)).trans ((hIf 89 k (by omega)).trans (b89 k)))) (fun k => (hJ2 90 k (by omega)).trans ((fI24 90 k (by omega)).trans ((hIf 90 k (by omega)).trans (b90 k))))) (fun he k hk => ((hJ2 99 k (by omega)).trans (d23 k (by rw [hm]; unfold mny; rw [if_neg (by omega)]; exact hk))).symm))
                        refine yi_D_callv rfl (q_worthAt (fa := fa) hS ((m88 0).trans hda) ((m88 1).trans hpe) ((m88 2).trans hev) bld (fun j hj => (hJ2 95 j (by omega)).trans ((fI24 95 j (by omega)).trans ((hIf 95 j (by omega)).trans ((b95 j).trans (hfa j hj))))) hpg) ?_
                        rintro _ ⟨I34, rfl, fW35⟩
                        show yi_D zi_Ms d zi_m32 j170 (200, [(5, .inl y5), (4, .inl z4), (3, .inl y3), (2, .inl y2), (1, .inl (m : Int)), (0, .inr (.inr (some 82)))], [.inl (lw y5.toNat y3.toNat)], (I34, G2, R, Y), 0, 0) _
                        by_cases h36 : (lw y5.toNat y3.toNat) = 0
                        · refine yi_D_if1 true rfl (yi_eq_t h36) ?_
                          refine yi_D_run 2 (210, [(4, .inl 0), (5, .inl y5), (3, .inl y3), (2, .inl y2), (1, .inl (m : Int)), (0, .inr (.inr (some 82)))], [], (I34, G2, R, Y), 0, 0) (fun _ => rfl) ?_
                          refine yi_D_iinc [(5, .inl (y5 + 1)), (4, .inl 0), (3, .inl y3), (2, .inl y2), (1, .inl (m : Int)), (0, .inr (.inr (some 82)))] rfl rfl rfl (by rw [show yi_w (y5 + 1) = y5 + 1 from (yi_wn (by omega) (by omega)).trans (by omega)]; rfl) ?_
                          refine yi_D_run 1 (170, [(5, .inl (y5 + 1)), (4, .inl 0), (3, .inl y3), (2, .inl y2), (1, .inl (m : Int)), (0, .inr (.inr (some 82)))], [], (I34, G2, R, Y), 0, 0) (fun _ => rfl) ?_
                          exact yi_D_mono (ih170 (by omega) (y5 + 1) 0 I34 (by omega) (Or.inr ⟨rfl, al_mo (k := y5.toNat + 1) (by show (al (fun j => decide (¬ lw j y3.toNat = 0)) y5.toNat && decide (¬ lw y5.toNat y3.toNat = 0)) = false; rw [decide_eq_false (fun h => h (by assumption)), Bool.and_false]) nl (by omega)⟩) (fun p i h => (fW35 p i h).trans (hJ2 p i h))) (by omega)
                        · refine yi_D_if1 false rfl (yi_eq_f h36) ?_
                          refine yi_D_run 3 (210, [(4, .inl 1), (5, .inl y5), (3, .inl y3), (2, .inl y2), (1, .inl (m : Int)), (0, .inr (.inr (some 82)))], [], (I34, G2, R, Y), 0, 0) (fun _ => rfl) ?_
                          refine yi_D_iinc [(5, .inl (y5 + 1)), (4, .inl 1), (3, .inl y3), (2, .inl y2), (1, .inl (m : Int)), (0, .inr (.inr (some 82)))] rfl rfl rfl (by rw [show yi_w (y5 + 1) = y5 + 1 from (yi_wn (by omega) (by omega)).trans (by omega)]; rfl) ?_
                          refine yi_D_run 1 (170, [(5, .inl (y5 + 1)), (4, .inl 1), (3, .inl y3), (2, .inl y2), (1, .inl (m : Int)), (0, .inr (.inr (some 82)))], [], (I34, G2, R, Y), 0, 0) (fun _ => rfl) ?_
                          exact yi_D_mono (ih170 (by omega) (y5 + 1) 1 I34 (by omega) (Or.inl ⟨rfl, by rw [show (y5 + 1).toNat = y5.toNat + 1 by omega]; show (al (fun j => decide (¬ lw j y3.toNat = 0)) y5.toNat && decide (¬ lw y5.toNat y3.toNat = 0)) = true; rw [hz4.resolve_right (fun h => by omega) |>.2, decide_eq_true (by assumption)]; rfl⟩) (fun p i h => (fW35 p i h).trans (hJ2 p i h))) (by omega)
                  exact pt170 j132 (Nat.le_refl _) 0 1 I22 (by omega) (Or.inl ⟨rfl, rfl⟩) (fun _ _ _ => rfl)
                · refine yi_D_if2 false rfl (yi_ge_f h25) ?_
                  refine yi_D_run 2 (140, [(4, .inl y4), (3, .inl y3), (2, .inl y2), (1, .inl (m : Int)), (0, .inr (.inr (some 82))), (5, .inl z5)], [.inr (.inr (some 82)), .inr (.inr (some 82))], (I22, G2, R, Y), 0, 0) (fun _ => rfl) ?_
                  refine yi_D_callv rfl (q_events (v := (ev : Int)) hS (by rw [fI24 88 2 (by omega)]; exact (j88 2).trans hev)) ?_
                  rintro _ rfl
                  show yi_D zi_Ms d zi_m32 j132 (143, [(4, .inl y4), (3, .inl y3), (2, .inl y2), (1, .inl (m : Int)), (0, .inr (.inr (some 82))), (5, .inl z5)], [.inl (ev : Int), .inr (.inr (some 82))], (I22, G2, R, Y), 0, 0) _
                  refine yi_D_run 1 (145, [(4, .inl y4), (3, .inl y3), (2, .inl y2), (1, .inl (m : Int)), (0, .inr (.inr (some 82))), (5, .inl z5)], [.inl y4, .inl (ev : Int), .inr (.inr (some 82))], (I22, G2, R, Y), 0, 0) (fun _ => rfl) ?_
                  refine yi_D_imul rfl (((ev * y4.toNat : Nat) : Int)) (by rw [show (ev : Int) * y4 = ((ev * y4.toNat : Nat) : Int) by rw [Int.natCast_mul, show ((y4.toNat : Nat) : Int) = y4 by omega]]; have hm9 := Nat.mul_le_mul (show ev ≤ 4 by omega) (show y4.toNat ≤ 24 by omega); exact yi_wn (by omega) (by omega)) ?_
                  refine yi_D_run 1 (147, [(4, .inl y4), (3, .inl y3), (2, .inl y2), (1, .inl (m : Int)), (0, .inr (.inr (some 82))), (5, .inl z5)], [.inr (.inr (some 82)), .inl ((ev * y4.toNat : Nat) : Int), .inr (.inr (some 82))], (I22, G2, R, Y), 0, 0) (fun _ => rfl) ?_
                  refine yi_D_gr (v := some 99) rfl rfl rfl (ym_S_at hS (j := 16) rfl).1 (fun _ => ?_)
                  refine yi_D_run 1 (152, [(4, .inl y4), (3, .inl y3), (2, .inl y2), (1, .inl (m : Int)), (0, .inr (.inr (some 82))), (5, .inl z5)], [.inl y4, .inr (.inr (some 99)), .inl ((ev * y4.toNat : Nat) : Int), .inr (.inr (some 82))], (I22, G2, R, Y), 0, 0) (fun _ => rfl) ?_
                  have hdg : dg ev m y3.toNat y4.toNat < ev := Nat.mod_lt _ (hev0 (by omega))
                  have hwx := wx_lt (P := m) (k := y4.toNat) (ev := ev) (e := dg ev m y3.toNat y4.toNat) (by omega) hdg
                  refine yi_D_il (v := ((dg ev m y3.toNat y4.toNat : Nat) : Int)) rfl rfl (d23 y4.toNat (by omega)) (fun _ _ => ?_)
                  refine yi_D_iadd rfl (((ev * y4.toNat : Nat) : Int) + ((dg ev m y3.toNat y4.toNat : Nat) : Int)) (yi_wn (by omega) (by omega)) ?_
                  refine yi_D_run 1 (155, [(4, .inl y4), (3, .inl y3), (2, .inl y2), (1, .inl (m : Int)), (0, .inr (.inr (some 82))), (5, .inl z5)], [.inl y3, .inl (((ev * y4.toNat : Nat) : Int) + ((dg ev m y3.toNat y4.toNat : Nat) : Int)), .inr (.inr (some 82))], (I22, G2, R, Y), 0, 0) (fun _ => rfl) ?_
                  refine yi_D_callv rfl (q_sets (a := ev * y4.toNat + dg ev m y3.toNat y4.toNat) (f := y3.toNat) hS (by omega) (by omega) (by omega) (by omega)) ?_
                  rintro _ ⟨L37, rfl, a38, b39, c40⟩
                  show yi_D zi_Ms d zi_m32 j132 (158, [(4, .inl y4), (3, .inl y3), (2, .inl y2), (1, .inl (m : Int)), (0, .inr (.inr (some 82))), (5, .inl z5)], [], (I22, L37, R, Y), 0, 0) _
                  refine yi_D_iinc [(4, .inl (y4 + 1)), (3, .inl y3), (2, .inl y2), (1, .inl (m : Int)), (0, .inr (.inr (some 82))), (5, .inl z5)] rfl rfl rfl (by rw [show yi_w (y4 + 1) = y4 + 1 from (yi_wn (by omega) (by omega)).trans (by omega)]; rfl) ?_
                  refine yi_D_run 1 (132, [(4, .inl (y4 + 1)), (3, .inl y3), (2, .inl y2), (1, .inl (m : Int)), (0, .inr (.inr (some 82))), (5, .inl z5)], [], (I22, L37, R, Y), 0, 0) (fun _ => rfl) ?_
                  exact yi_D_mono (ih132 (by omega) (y4 + 1) z5 L37 (by omega) (fun k e f hk he hf => by have hx := wx_lt hk he; by_cases e1 : ev * k + e = ev * y4.toNat + dg ev m y3.toNat y4.toNat; obtain ⟨e2, e3⟩ := ff_idx he hdg e1; rw [e1, a38 f, ← e1, hkk k e f hk he hf, decide_eq_false (show ¬ ((k : Int) < y4) by omega), decide_eq_true (show ((k : Int) < y4 + 1) by omega), e2, decide_eq_true e3.symm, Bool.false_and, Bool.and_false, Bool.or_false, Bool.true_and, Bool.and_true]; rw [ff_o c40 e1 (by omega) (by omega), hkk k e f hk he hf]; by_cases e4 : k = y4.toNat; (rw [decide_eq_false (show ¬ dg ev m y3.toNat k = e from fun z => e1 (by rw [e4, ← z, e4]))]; simp only [Bool.and_false]); rw [show decide ((k : Int) < y4 + 1) = decide ((k : Int) < y4) by rw [decide_eq_decide]; omega]) (fun f hf => by rw [ff_o c40 (by omega) (by omega) (by omega)]; exact hx32 f hf) (fun a ha => by by_cases e : a = ev * y4.toNat + dg ev m y3.toNat y4.toNat; rw [e]; exact b39 n (hok2 _ (by omega)); exact ff_ok c40 e (by omega) (hok2 a ha))) (by omega)
              exact pt132 j116 (Nat.le_refl _) 0 z5a G1 (by omega) (fun k e f hk he hf => by rw [decide_eq_false (show ¬ ((k : Int) < 0) by omega), Bool.false_and, Bool.and_false, Bool.or_false]) (fun _ _ => rfl) hok
          refine yi_D_al (al := [(3, .inl 0), (2, .inl y2), (1, .inl (m : Int)), (0, .inr (.inr (some 82))), (4, .inl 0), (5, .inl 0)]) (show ([3, 2, 1, 0, 4, 5] : List Nat).Nodup by decide) (show ([3, 2, 1, 0] : List Nat).Nodup by decide) (yi_mc (List.mem_of_getElem? (i := 0) rfl) (yi_mc (List.mem_of_getElem? (i := 1) rfl) (yi_mc (List.mem_of_getElem? (i := 2) rfl) (yi_mc (List.mem_of_getElem? (i := 3) rfl) yi_mn)))) ?_
          exact pt116 j91 (Nat.le_refl _) 0 0 0 I7 L10 (by omega) (fun k e f hk he hf => by rw [decide_eq_false (show ¬ ((f : Int) < 0) by omega), Bool.false_and]; have := wx_lt hk he; unfold rbt; rw [b12 97 _ (by omega), hz0 _ _ (by omega) (by omega), yb_0]) (fun f hf => by rw [decide_eq_false (show ¬ ((f : Int) < 0) by omega), Bool.false_and]; unfold rbt; rw [a11 _ (by omega), yb_0]) (fun a ha k hk => by by_cases e : a = 32; rw [e, a11 k hk]; exact b64_0; rw [b12 97 _ (by omega), hz0 a k (by omega) hk]; exact b64_0) (fun _ _ _ => rfl)
        · refine yi_D_if2 false rfl (yi_ge_f h9) ?_
          refine yi_D_run 2 (99, [(3, .inl y3b), (2, .inl y2), (1, .inl (m : Int)), (0, .inr (.inr (some 82)))], [.inl y3b, .inr (.inr (some 82))], (I7, G0, R, Y), 0, 0) (fun _ => rfl) ?_
          refine yi_D_callv rfl (q_clears (a := y3b.toNat) (n := n) hS (by omega) (by omega) b25 (by omega)) ?_
          rintro _ ⟨L41, rfl, a42, b43⟩
          show yi_D zi_Ms d zi_m32 j91 (102, [(3, .inl y3b), (2, .inl y2), (1, .inl (m : Int)), (0, .inr (.inr (some 82)))], [], (I7, L41, R, Y), 0, 0) _
          refine yi_D_iinc [(3, .inl (y3b + 1)), (2, .inl y2), (1, .inl (m : Int)), (0, .inr (.inr (some 82)))] rfl rfl rfl (by rw [show yi_w (y3b + 1) = y3b + 1 from (yi_wn (by omega) (by omega)).trans (by omega)]; rfl) ?_
          refine yi_D_run 1 (91, [(3, .inl (y3b + 1)), (2, .inl y2), (1, .inl (m : Int)), (0, .inr (.inr (some 82)))], [], (I7, L41, R, Y), 0, 0) (fun _ => rfl) ?_
          exact yi_D_mono (ih91 (by omega) (y3b + 1) L41 (by omega) (fun a k h hk => by by_cases e : a = y3b.toNat; rw [e]; exact a42 k hk; rw [b43 97 _ (by omega)]; exact hz0 a k (by omega) hk)) (by omega)
      exact pt91 j60 (Nat.le_refl _) 0 L (by omega) (fun a k h _ => absurd h (by omega))
    · refine yi_D_if1 false rfl (yi_lt_f h6) ?_
      refine yi_D_run 1 (65, [(3, .inl y3), (2, .inl y2), (1, .inl (m : Int)), (0, .inr (.inr (some 82)))], [.inr (.inr (some 82))], (J0, L, R, Y), 0, 0) (fun _ => rfl) ?_
      refine yi_D_gr (v := some 98) rfl rfl rfl (ym_S_at hS (j := 15) rfl).1 (fun _ => ?_)
      refine yi_D_run 2 (70, [(3, .inl y3), (2, .inl y2), (1, .inl (m : Int)), (0, .inr (.inr (some 82)))], [.inl y2, .inl y3, .inr (.inr (some 98))], (J0, L, R, Y), 0, 0) (fun _ => rfl) ?_
      refine yi_D_is rfl (fun _ _ => ?_)
      generalize w45 : yi_u J0 98 (y3.toNat) y2 = I44
      refine yi_D_run 2 (73, [(3, .inl y3), (2, .inl y2), (1, .inl (m : Int)), (0, .inr (.inr (some 82)))], [.inr (.inr (some 82)), .inl y2], (I44, L, R, Y), 0, 0) (fun _ => rfl) ?_
      refine yi_D_callv rfl (q_events (v := (ev : Int)) hS (by rw [← w45, yi_u_ne _ _ (by omega), hf0 88 2 (by omega), ← w5, yi_u_ne _ _ (by omega), ← w2, yi_u_ne _ _ (by omega)]; exact hev)) ?_
      rintro _ rfl
      show yi_D zi_Ms d zi_m32 j60 (76, [(3, .inl y3), (2, .inl y2), (1, .inl (m : Int)), (0, .inr (.inr (some 82)))], [.inl (ev : Int), .inl y2], (I44, L, R, Y), 0, 0) _
      have hpw1 : ev ^ (((m : Int) - 1 - y3).toNat + 1) ≤ 32768 := by
        have h1 : ev ^ (((m : Int) - 1 - y3).toNat + 1) ≤ ev ^ m := Nat.pow_le_pow_right (hev0 (by omega)) (by omega)
        omega
      refine yi_D_imul rfl (((ev ^ (((m : Int) - 1 - y3).toNat + 1) : Nat) : Int)) (by rw [hy2, ← Int.natCast_mul, show ev ^ (((m : Int) - 1 - y3).toNat) * ev = ev ^ (((m : Int) - 1 - y3).toNat + 1) from (Nat.pow_succ ..).symm]; exact yi_wn (by omega) (by omega)) ?_
      refine yi_D_run 1 (78, [(2, .inl ((ev ^ (((m : Int) - 1 - y3).toNat + 1) : Nat) : Int)), (3, .inl y3), (1, .inl (m : Int)), (0, .inr (.inr (some 82)))], [], (I44, L, R, Y), 0, 0) (fun _ => rfl) ?_
      refine yi_D_iinc [(3, .inl (y3 - 1)), (2, .inl ((ev ^ (((m : Int) - 1 - y3).toNat + 1) : Nat) : Int)), (1, .inl (m : Int)), (0, .inr (.inr (some 82)))] rfl rfl rfl (by rw [show yi_w (y3 + (-1)) = y3 - 1 from (yi_wn (by omega) (by omega)).trans (by omega)]; rfl) ?_
      refine yi_D_run 1 (60, [(3, .inl (y3 - 1)), (2, .inl ((ev ^ (((m : Int) - 1 - y3).toNat + 1) : Nat) : Int)), (1, .inl (m : Int)), (0, .inr (.inr (some 82)))], [], (I44, L, R, Y), 0, 0) (fun _ => rfl) ?_
      exact yi_D_mono (ih60 (by omega) (y3 - 1) ((ev ^ (((m : Int) - 1 - y3).toNat + 1) : Nat) : Int) I44 (by omega) (by rw [show ((m : Int) - 1 - (y3 - 1)).toNat = ((m : Int) - 1 - y3).toNat + 1 by omega]) (fun k h1 h2 => by by_cases e : (k : Int) = y3; rw [← w45, show k = y3.toNat by omega, yi_u_eq, hy2, show ((m : Int) - 1 - y3).toNat = m - 1 - y3.toNat by omega]; rw [← w45, yi_u_ne _ _ (by omega)]; exact hp0 k (by omega) h2) (fun p i h => by rw [← w45, yi_u_ne _ _ (by omega)]; exact hf0 p i h)) (by omega)
  exact pt60 k (Nat.le_refl _) ((m : Int) - 1) 1 I4 (by omega) (by rw [show ((m : Int) - 1 - ((m : Int) - 1)).toNat = 0 by omega, Nat.pow_zero]; rfl) (fun k h1 h2 => absurd h1 (by omega)) (fun _ _ _ => rfl)
theorem q_findsFutures {d : Nat} {I L : Nat → Nat → Int} {R : Nat → Nat → Option Nat} {Y : (Nat → Nat) × (Nat → Nat) × Nat} (hS : ym_S (R, Y)) {da pe ev m F n nl nw : Nat} {fa : Nat → Int} {lf lN wf wN who : Nat → Nat} {lw ww : Nat → Nat → Int} {kd : Nat → Int} (hda : I 88 0 = (da : Int)) (hpe : I 88 1 = (pe : Int)) (hev : I 88 2 = (ev : Int)) (bld : da ≤ 6 ∧ pe ≤ 4 ∧ ev ≤ 4) (hm : m = mny da pe ev) (hF : F = ev ^ m) (hF2 : F ≤ 32768) (hn : n = (F + 63) / 64) (hnl : I 88 4 = (nl : Int)) (hnl4 : nl ≤ 4) (hnw : I 88 5 = (nw : Int)) (hnw6 : nw ≤ 6) (hlf : ∀ j, j < nl → I 88 (21 + j) = (lf j : Int)) (hwf : ∀ w, w < nw → I 88 (27 + 3 * w) = (wf w : Int)) (hwo : ∀ w, w < nw → I 88 (25 + 3 * w) = (who w : Int) ∧ who w ≤ 4 ∧ I 88 (11 + 2 * who w) = kd w) (hfa : ∀ j, j < 3 → I 95 j = fa j) (hpl : ∀ j, j < nl → pgF I pe ev da m F 0 fa (lf j) (lN j) (lw j)) (hpw : ∀ w, w < nw → pgF I pe ev da m F (kd w) fa (wf w) (wN w) (ww w)) (h28 : I 82 28 = 0) : yi_P zi_Ms d 32 [.inr (.inr (some 82))] (I, L, R, Y) (fun r => ∃ I' L', r = (none, (I', L', R, Y), 0, 0) ∧ (∀ k e f, k < m → e < ev → f < 64 * n → rbt L' (ev * k + e) f = (decide (f < F) && decide (dg ev m f k = e))) ∧ (∀ f, f < 64 * n → rbt L' 32 f = (decide (f < F) && al (fun j => decide (¬ lw j f = 0)) nl)) ∧ (∀ w f, w < nw → f < 64 * n → rbt L' (40 + w) f = (!(decide (kd w = 4) && nmg I (wf w) (wN w)) && (decide (f < F) && (decide (¬ ww w f = 0) != decide (kd w = 2))))) ∧ (∀ a, a ≤ 32 → rok L' a n) ∧ (∀ w, w < nw → rok L' (40 + w) n) ∧ (I' 82 24 = (F : Int) ∧ I' 82 25 = (n : Int) ∧ I' 82 28 = 0 ∧ ∀ k, k < m → I' 98 k = ((ev ^ (m - 1 - k) : Nat) : Int))) := by
  refine yi_P_of (M := zi_m32) rfl (fun d k => ?_)
  have hb : da * pe ≤ 6 * 4 := Nat.mul_le_mul bld.1 bld.2.1
  show yi_D zi_Ms d zi_m32 k (0, [(0, .inr (.inr (some 82)))], [], (I, L, R, Y), 0, 0) _
  refine yi_D_run 1 (1, [(0, .inr (.inr (some 82)))], [.inr (.inr (some 82))], (I, L, R, Y), 0, 0) (fun _ => rfl) ?_
  refine yi_D_callv rfl (q_events (v := (ev : Int)) hS hev) ?_
  rintro _ rfl
  show yi_D zi_Ms d zi_m32 k (4, [(0, .inr (.inr (some 82)))], [.inl (ev : Int)], (I, L, R, Y), 0, 0) _
  by_cases h1 : (ev : Int) = 0
  · refine yi_D_if1 false rfl (yi_ne_f h1) ?_
    refine yi_D_run 2 (20, [(0, .inr (.inr (some 82)))], [.inl 0], (I, L, R, Y), 0, 0) (fun _ => rfl) ?_
    refine yi_D_run 1 (21, [(1, .inl 0), (0, .inr (.inr (some 82)))], [], (I, L, R, Y), 0, 0) (fun _ => rfl) ?_
    have hmv : 0 = (m : Int) := by rw [hm]; unfold mny; rw [if_pos (by omega)]; rfl
    rw [show (1, (.inl 0 : yi_V)) = (1, .inl (m : Int)) by rw [hmv]]
    exact q_ffT hS hda hpe hev bld hm hF hF2 hn hnl hnl4 hnw hnw6 hlf hwf hwo hfa hpl hpw h28
  · refine yi_D_if1 true rfl (yi_ne_t h1) ?_
    refine yi_D_run 1 (12, [(0, .inr (.inr (some 82)))], [.inr (.inr (some 82))], (I, L, R, Y), 0, 0) (fun _ => rfl) ?_
    refine yi_D_callv rfl (q_days (v := (da : Int)) hS hda) ?_
    rintro _ rfl
    show yi_D zi_Ms d zi_m32 k (15, [(0, .inr (.inr (some 82)))], [.inl (da : Int)], (I, L, R, Y), 0, 0) _
    refine yi_D_run 1 (16, [(0, .inr (.inr (some 82)))], [.inr (.inr (some 82)), .inl (da : Int)], (I, L, R, Y), 0, 0) (fun _ => rfl) ?_
    refine yi_D_callv rfl (q_people (n1 := (pe : Int)) hS hpe) ?_
    rintro _ rfl
    show yi_D zi_Ms d zi_m32 k (19, [(0, .inr (.inr (some 82)))], [.inl (pe : Int), .inl (da : Int)], (I, L, R, Y), 0, 0) _
    refine yi_D_imul rfl (((da * pe : Nat) : Int)) (by rw [← Int.natCast_mul]; exact yi_wn (by omega) (by omega)) ?_
    refine yi_D_run 1 (21, [(1, .inl ((da * pe : Nat) : Int)), (0, .inr (.inr (some 82)))], [], (I, L, R, Y), 0, 0) (fun _ => rfl) ?_
    have hmv : ((da * pe : Nat) : Int) = (m : Int) := by rw [hm]; unfold mny; rw [if_neg (by omega)]
    rw [show (1, (.inl ((da * pe : Nat) : Int) : yi_V)) = (1, .inl (m : Int)) by rw [hmv]]
    exact q_ffT hS hda hpe hev bld hm hF hF2 hn hnl hnl4 hnw hnw6 hlf hwf hwo hfa hpl hpw h28
