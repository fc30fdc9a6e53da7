/-! The class: a word's row is filled. -/
theorem p_resizeB {d : Nat} {I L : Nat → Nat → Int} {R : Nat → Nat → Option Nat} {Y : (Nat → Nat) × (Nat → Nat) × Nat} {p c m : Nat} (hp : 10 ≤ p ∧ p < Y.2.2 ∧ 10 ≤ c ∧ c < Y.2.2 ∧ Y.1 c = 21) (hR : R p 0 = some c) (hm : 1 ≤ m ∧ m ≤ 512) : yi_P zi_Ms d 207 [.inr (.inr (some p)), .inl (m : Int)] (I, L, R, Y) (fun r => ∃ I' L' R' Y' nc ns c', r = (none, (I', L', R', Y'), nc, ns) ∧ rz_H I R Y I' R' Y' p m c c' ∧ (∀ q k, q < Y.2.2 → L' q k = L q k) ∧ (Y.2.1 c ≤ 1000000 → Y'.2.1 c' ≤ 1000000)) := by
  refine yi_P_of (M := zi_m207) rfl (fun d k => ?_)
  show yi_D zi_Ms d zi_m207 k (0, [(0, .inr (.inr (some p))), (1, .inl (m : Int))], [], (I, L, R, Y), 0, 0) _
  refine yi_D_run 2 (2, [(0, .inr (.inr (some p))), (1, .inl (m : Int))], [.inl 1, .inl (m : Int)], (I, L, R, Y), 0, 0) (fun _ => rfl) ?_
  refine yi_D_run 1 (5, [(0, .inr (.inr (some p))), (1, .inl (m : Int))], [.inl (if (m : Int) < 1 then 1 else (m : Int))], (I, L, R, Y), 0, 0) (fun _ => rfl) ?_
  rw [if_neg (show ¬ ((m : Int) < 1) by omega)]
  refine yi_D_run 2 (7, [(2, .inl (m : Int)), (0, .inr (.inr (some p))), (1, .inl (m : Int))], [.inr (.inr (some p))], (I, L, R, Y), 0, 0) (fun _ => rfl) ?_
  refine yi_D_gr (v := some c) rfl rfl (Nat.ble_eq_true_of_le (by omega)) hR (fun _ => ?_)
  refine yi_D_len (v := (Y.2.1 c : Int)) rfl (Nat.ble_eq_true_of_le (by omega)) rfl ?_
  refine yi_D_run 1 (12, [(2, .inl (m : Int)), (0, .inr (.inr (some p))), (1, .inl (m : Int))], [.inl (m : Int), .inl (Y.2.1 c : Int)], (I, L, R, Y), 0, 0) (fun _ => rfl) ?_
  by_cases h1 : (m : Int) ≤ (Y.2.1 c : Int)
  · refine yi_D_if2 true rfl (yi_ge_t h1) ?_
    refine yi_D_run 2 (24, [(2, .inl (m : Int)), (0, .inr (.inr (some p))), (1, .inl (m : Int))], [.inl (m : Int), .inr (.inr (some p))], (I, L, R, Y), 0, 0) (fun _ => rfl) ?_
    refine yi_D_pi rfl (fun _ => ?_)
    generalize w3 : yi_u I p 1 (m : Int) = I2
    refine yi_D_retv rfl ?_
    refine ⟨_, _, _, _, _, _, c, rfl, ⟨⟨hR, by rw [← w3, yi_u_eq], by omega, by omega, by omega, hp.2.2.2.2⟩, fun q k hq => ⟨fun h => by rw [← w3, yi_u_ne _ _ h], fun _ => rfl⟩, ⟨Nat.le_refl _, fun _ _ => ⟨rfl, rfl⟩⟩, Or.inl ⟨rfl, rfl, by omega⟩⟩, fun _ _ _ => rfl, (fun h => h)⟩
  · refine yi_D_if2 false rfl (yi_ge_f h1) ?_
    refine yi_D_run 2 (17, [(2, .inl (m : Int)), (0, .inr (.inr (some p))), (1, .inl (m : Int))], [.inl (m : Int), .inr (.inr (some p))], (I, L, R, Y), 0, 0) (fun _ => rfl) ?_
    refine yi_D_nwa3 rfl (fun q4 I5 L6 R7 Y8 m9 mk10 mn11 ml12 my13 => ?_)
    obtain ⟨k14, k15, k16, k17, k18, k19⟩ := mk10
    have q4q : q4 = Y.2.2 := k14
    have q4n := k19
    refine yi_D_prw rfl (fun _ => ?_)
    generalize w21 : cl_u R7 p 0 (some q4) = R20
    refine yi_D_run 2 (24, [(2, .inl (m : Int)), (0, .inr (.inr (some p))), (1, .inl (m : Int))], [.inl (m : Int), .inr (.inr (some p))], (I5, L6, R20, Y8), (0 + 1), m9) (fun _ => rfl) ?_
    refine yi_D_pi rfl (fun _ => ?_)
    generalize w23 : yi_u I5 p 1 (m : Int) = I22
    refine yi_D_retv rfl ?_
    have hqN : q4 = Y.2.2 := k14
    refine ⟨_, _, _, _, _, _, q4, rfl, ⟨⟨by rw [← w21, cl_u_eq], by rw [← w23, yi_u_eq], by rw [k18]; omega, by omega, by omega, my13⟩, fun q k hq => ⟨fun h => by rw [← w23, yi_u_ne _ _ h, (k15 q k (by omega)).1], fun h => by rw [← w21, cl_u_ne _ _ h, (k15 q k (by omega)).2.2]⟩, ⟨by omega, fun q hq => by rw [(k17 q (by omega)).1, (k17 q (by omega)).2]; exact ⟨rfl, rfl⟩⟩, Or.inr ⟨by omega, by omega, fun k => by rw [← hqN, ← w21, cl_u_ne _ _ (by omega), mn11 k], by omega⟩⟩, fun q k hq => by rw [(k15 q k (by omega)).2.1], (fun _ => by rw [k18]; omega)⟩
theorem p_clear {d : Nat} {I L : Nat → Nat → Int} {R : Nat → Nat → Option Nat} {Y : (Nat → Nat) × (Nat → Nat) × Nat} {p c : Nat} (hp : 10 ≤ p) (hR : R p 0 = some c) (hc : 10 ≤ c ∧ Y.2.1 c ≤ 1000000) : yi_P zi_Ms d 199 [.inr (.inr (some p))] (I, L, R, Y) (fun r => ∃ L', r = (none, (I, L', R, Y), 0, 0) ∧ (∀ k, k < Y.2.1 c → L' c k = 0) ∧ (∀ q k, ¬ q = c → L' q k = L q k)) := by
  refine yi_P_of (M := zi_m199) rfl (fun d k => ?_)
  show yi_D zi_Ms d zi_m199 k (0, [(0, .inr (.inr (some p)))], [], (I, L, R, Y), 0, 0) _
  refine yi_D_run 1 (1, [(0, .inr (.inr (some p)))], [.inr (.inr (some p))], (I, L, R, Y), 0, 0) (fun _ => rfl) ?_
  refine yi_D_gr (v := some c) rfl rfl (Nat.ble_eq_true_of_le (by omega)) hR (fun _ => ?_)
  refine yi_D_run 1 (5, [(0, .inr (.inr (some p)))], [.inr (.inl 0), .inr (.inr (some c))], (I, L, R, Y), 0, 0) (fun _ => rfl) ?_
  refine yi_D_calls rfl (p_fillL ⟨hc.1, by omega⟩) ?_
  rintro _ ⟨L1, rfl, a2, b3⟩
  show yi_D zi_Ms d zi_m199 k (8, [(0, .inr (.inr (some p)))], [], (I, L1, R, Y), 0, 0) _
  refine yi_D_retv rfl ?_
  exact ⟨_, rfl, a2, fun q k h => b3 q k (fun z => h z.1)⟩
/-- a row that is filled: what changes -/
def fb_E (N f c n : Nat) (I L : Nat → Nat → Int) (R : Nat → Nat → Option Nat) (Y : (Nat → Nat) × (Nat → Nat) × Nat) (I' L' : Nat → Nat → Int) (R' : Nat → Nat → Option Nat) (Y' : (Nat → Nat) × (Nat → Nat) × Nat) : Prop := (R' 39 N = some f ∧ rw_S I' R' Y' f c n ∧ Y'.2.1 c ≤ 1000000) ∧ (∀ q k, q < Y.2.2 → (¬ q = f → I' q k = I q k) ∧ (¬ q = f → ¬ (q = 39 ∧ k = N) → R' q k = R q k) ∧ (¬ q = c → L' q k = L q k)) ∧ (Y.2.2 ≤ Y'.2.2 ∧ ∀ q, q < Y.2.2 → Y'.1 q = Y.1 q ∧ Y'.2.1 q = Y.2.1 q) ∧ (R 39 N = some f ∨ (R 39 N = none ∧ Y.2.2 ≤ f)) ∧ ((R 39 N = some f ∧ R f 0 = some c) ∨ Y.2.2 ≤ c)
theorem fb_mod {B ev e j t : Nat} (he : e < ev) (ht : t < B * ev) : (e * B + j * (B * ev) + t) / B % ev = e ↔ t < B := by
  have hB : 0 < B := by
    rcases Nat.eq_zero_or_pos B with h | h
    · subst h
      rw [Nat.zero_mul] at ht
      omega
    · exact h
  have e1 : e * B + j * (B * ev) + t = B * (e + j * ev) + t := by
    rw [Nat.mul_add, Nat.mul_comm B e, Nat.mul_left_comm B j ev]
  have hq : t / B < ev := (Nat.div_lt_iff_lt_mul hB).2 (by rw [Nat.mul_comm]; exact ht)
  rw [e1, Nat.mul_add_div hB, show e + j * ev + t / B = (e + t / B) + j * ev by omega, Nat.add_mul_mod_self_right]
  have hz : t / B = 0 ↔ t < B := Nat.div_eq_zero_iff_lt hB
  rw [← hz]
  by_cases c : e + t / B < ev
  · rw [Nat.mod_eq_of_lt c]
    omega
  · rw [Nat.mod_eq_sub_mod (by omega), Nat.mod_eq_of_lt (by omega)]
    omega
theorem fb_step {B ev e j : Nat} (he : e < ev) (f : Nat) : (decide (f < e * B + j * (B * ev) ∧ f / B % ev = e) || decide (e * B + j * (B * ev) ≤ f ∧ f < e * B + j * (B * ev) + B)) = decide (f < e * B + (j + 1) * (B * ev) ∧ f / B % ev = e) := by
  have hS : e * B + (j + 1) * (B * ev) = e * B + j * (B * ev) + B * ev := by rw [Nat.add_mul, Nat.one_mul]; omega
  rw [hS]
  generalize hX : e * B + j * (B * ev) = X
  have hBS : B ≤ B * ev := Nat.le_mul_of_pos_right B (by omega)
  rw [← Bool.decide_or]
  apply decide_eq_decide.2
  by_cases c : f < X
  · constructor
    · rintro (h | h)
      · exact ⟨by omega, h.2⟩
      · omega
    · intro h
      exact Or.inl ⟨c, h.2⟩
  · by_cases c2 : f < X + B * ev
    · have z := fb_mod (B := B) (j := j) (t := f - X) he (by omega)
      rw [hX, show X + (f - X) = f by omega] at z
      constructor
      · rintro (h | h)
        · omega
        · exact ⟨c2, z.2 (by omega)⟩
      · intro h
        have := z.1 h.2
        exact Or.inr ⟨by omega, by omega⟩
    · constructor
      · rintro (h | h) <;> omega
      · intro h; omega
theorem fb_end {B ev e j J : Nat} (he : e < ev) (hJ : j ≤ J) (h : J * (B * ev) ≤ e * B + j * (B * ev)) (f : Nat) : decide (f < e * B + j * (B * ev) ∧ f / B % ev = e) = decide (f < J * (B * ev) ∧ f / B % ev = e) := by
  rcases Nat.eq_zero_or_pos B with hB | hB
  · subst hB
    simp only [Nat.zero_mul, Nat.mul_zero]
  have hlt : e * B < B * ev := by rw [Nat.mul_comm B ev]; exact Nat.mul_lt_mul_of_pos_right he hB
  have hj : j = J := by
    by_cases c : j = J
    · exact c
    · exfalso
      have : (j + 1) * (B * ev) ≤ J * (B * ev) := Nat.mul_le_mul_right _ (by omega)
      rw [Nat.add_mul, Nat.one_mul] at this
      omega
  subst hj
  apply decide_eq_decide.2
  constructor
  · rintro ⟨h1, h2⟩
    refine ⟨?_, h2⟩
    by_cases c : f < j * (B * ev)
    · exact c
    · exfalso
      have key : ∀ t, t < e * B → ¬ (j * (B * ev) + t) / B % ev = e := by
        intro t ht hh
        have e1 : j * (B * ev) + t = B * (j * ev) + t := by rw [Nat.mul_left_comm B j ev]
        rw [e1, Nat.mul_add_div hB, Nat.add_comm, Nat.add_mul_mod_self_right] at hh
        have hq : t / B < e := (Nat.div_lt_iff_lt_mul hB).2 ht
        rw [Nat.mod_eq_of_lt (by omega)] at hh
        omega
      have z := key (f - j * (B * ev)) (by omega)
      rw [show j * (B * ev) + (f - j * (B * ev)) = f by omega] at z
      exact z h2
  · rintro ⟨h1, h2⟩
    exact ⟨by omega, h2⟩
theorem p_fillBlocks {d : Nat} {I L : Nat → Nat → Int} {R : Nat → Nat → Option Nat} {Y : (Nat → Nat) × (Nat → Nat) × Nat} (hA : at_T R Y) {N B ev e J n T : Nat} (hN : N < 96) (h342 : I 34 2 = (T : Int)) (h349 : I 34 9 = (n : Int)) (hT : T = J * (B * ev)) (hn : T ≤ 64 * n ∧ 1 ≤ n ∧ n ≤ 512) (hT2 : T ≤ 32768) (hB : 0 < B) (hS : B * ev ≤ 32768) (he : e < ev ∧ ev ≤ 4) (hr : ∀ f, R 39 N = some f → (110 ≤ f ∧ f < Y.2.2 ∧ Y.1 f = 5) ∧ ∃ c, R f 0 = some c ∧ 110 ≤ c ∧ c < Y.2.2 ∧ Y.1 c = 21 ∧ Y.2.1 c ≤ 1000000) : yi_P zi_Ms d 307 [.inr (.inr (some 34)), .inl (N : Int), .inl ((e * B : Nat) : Int), .inl (B : Int), .inl ((B * ev : Nat) : Int)] (I, L, R, Y) (fun r => ∃ I' L' R' Y' nc ns f c, r = (none, (I', L', R', Y'), nc, ns) ∧ fb_E N f c n I L R Y I' L' R' Y' ∧ (∀ x, x < 64 * n → rbc L' c x = decide (x < T ∧ x / B % ev = e)) ∧ rkc L' c n) := by
  refine yi_P_of (M := zi_m307) rfl (fun d k => ?_)
  have hNA := hA.2.2.2
  have hSp : 0 < B * ev := Nat.mul_pos hB (by omega)
  have hBS : B ≤ B * ev := Nat.le_mul_of_pos_right B (by omega)
  show yi_D zi_Ms d zi_m307 k (0, [(0, .inr (.inr (some 34))), (1, .inl (N : Int)), (2, .inl ((e * B : Nat) : Int)), (3, .inl (B : Int)), (4, .inl ((B * ev : Nat) : Int))], [], (I, L, R, Y), 0, 0) _
  refine yi_D_run 1 (1, [(0, .inr (.inr (some 34))), (1, .inl (N : Int)), (2, .inl ((e * B : Nat) : Int)), (3, .inl (B : Int)), (4, .inl ((B * ev : Nat) : Int))], [.inl (N : Int)], (I, L, R, Y), 0, 0) (fun _ => rfl) ?_
  have h1 : ¬ ((N : Int) < 0) := by omega
  refine yi_D_if1 false rfl (yi_lt_f h1) ?_
  refine yi_D_run 2 (6, [(0, .inr (.inr (some 34))), (1, .inl (N : Int)), (2, .inl ((e * B : Nat) : Int)), (3, .inl (B : Int)), (4, .inl ((B * ev : Nat) : Int))], [.inr (.inr (some 34)), .inl (N : Int)], (I, L, R, Y), 0, 0) (fun _ => rfl) ?_
  refine yi_D_gr (v := some 39) rfl rfl rfl (at_r hA (j := 26) rfl) (fun _ => ?_)
  refine yi_D_len (v := 96) rfl rfl (at_ni hA (j := 7) rfl) ?_
  have h2 : ¬ (96 ≤ (N : Int)) := by omega
  refine yi_D_if2 false rfl (yi_ge_f h2) ?_
  refine yi_D_run 1 (14, [(0, .inr (.inr (some 34))), (1, .inl (N : Int)), (2, .inl ((e * B : Nat) : Int)), (3, .inl (B : Int)), (4, .inl ((B * ev : Nat) : Int))], [.inl (B : Int)], (I, L, R, Y), 0, 0) (fun _ => rfl) ?_
  have h3 : ¬ ((B : Int) ≤ 0) := by omega
  refine yi_D_if1 false rfl (yi_le_f h3) ?_
  refine yi_D_run 1 (19, [(0, .inr (.inr (some 34))), (1, .inl (N : Int)), (2, .inl ((e * B : Nat) : Int)), (3, .inl (B : Int)), (4, .inl ((B * ev : Nat) : Int))], [.inl ((B * ev : Nat) : Int)], (I, L, R, Y), 0, 0) (fun _ => rfl) ?_
  have h4 : 0 < ((B * ev : Nat) : Int) := by omega
  refine yi_D_if1 true rfl (yi_gt_t h4) ?_
  refine yi_D_run 1 (24, [(0, .inr (.inr (some 34))), (1, .inl (N : Int)), (2, .inl ((e * B : Nat) : Int)), (3, .inl (B : Int)), (4, .inl ((B * ev : Nat) : Int))], [.inr (.inr (some 34))], (I, L, R, Y), 0, 0) (fun _ => rfl) ?_
  refine yi_D_gr (v := some 39) rfl rfl rfl (at_r hA (j := 26) rfl) (fun _ => ?_)
  refine yi_D_run 1 (28, [(0, .inr (.inr (some 34))), (1, .inl (N : Int)), (2, .inl ((e * B : Nat) : Int)), (3, .inl (B : Int)), (4, .inl ((B * ev : Nat) : Int))], [.inl (N : Int), .inr (.inr (some 39))], (I, L, R, Y), 0, 0) (fun _ => rfl) ?_
  refine yi_D_rl (v := R 39 N) rfl rfl rfl (fun _ _ => ?_)
  cases hq5 : R 39 N with
  | none =>
    refine yi_D_run 2 (33, [(5, .inr (.inr none)), (0, .inr (.inr (some 34))), (1, .inl (N : Int)), (2, .inl ((e * B : Nat) : Int)), (3, .inl (B : Int)), (4, .inl ((B * ev : Nat) : Int))], [.inr (.inr none)], (I, L, R, Y), 0, 0) (fun _ => rfl) ?_
    refine yi_D_nnx rfl ?_
    refine yi_D_new3 rfl (fun q7 I8 L9 R10 Y11 m12 mk13 mn14 ml15 my16 => ?_)
    obtain ⟨k17, k18, k19, k20, k21, k22⟩ := mk13
    have q7q : q7 = Y.2.2 := k17
    have q7n := k22
    refine yi_D_run 1 (40, [(5, .inr (.inr none)), (0, .inr (.inr (some 34))), (1, .inl (N : Int)), (2, .inl ((e * B : Nat) : Int)), (3, .inl (B : Int)), (4, .inl ((B * ev : Nat) : Int))], [.inr (.inr (some q7)), .inr (.inr (some q7))], (I8, L9, R10, Y11), (0 + 1), m12) (fun _ => rfl) ?_
    refine yi_D_callp rfl rfl (p_initSet ⟨by omega, by omega⟩) ?_
    rintro _ ⟨I23, L24, R25, Y26, n27, m28, rfl, i129, i230, i331, i432, i533, i634, i735, i836, i937⟩
    have hfI38 : ∀ q k, (q < Y11.2.2 ∧ ¬ (q = q7 ∧ k = 1)) → I23 q k = I8 q k := fun q k h => (i836 q k h.1).1 h.2
    have hfR39 : ∀ q k, (q < Y11.2.2 ∧ ¬ (q = q7 ∧ k = 0)) → R25 q k = R10 q k := fun q k h => (i836 q k h.1).2.2 h.2
    have hfL40 : ∀ q k, q < Y11.2.2 → L24 q k = L9 q k := fun q k h => (i836 q k h).2.1
    show yi_D zi_Ms d zi_m307 k (43, [(5, .inr (.inr none)), (0, .inr (.inr (some 34))), (1, .inl (N : Int)), (2, .inl ((e * B : Nat) : Int)), (3, .inl (B : Int)), (4, .inl ((B * ev : Nat) : Int))], [.inr (.inr (some q7))], (I23, L24, R25, Y26), ((0 + 1) + n27), (m12 + m28)) _
    refine yi_D_run 2 (46, [(5, .inr (.inr (some q7))), (0, .inr (.inr (some 34))), (1, .inl (N : Int)), (2, .inl ((e * B : Nat) : Int)), (3, .inl (B : Int)), (4, .inl ((B * ev : Nat) : Int))], [.inr (.inr (some 34))], (I23, L24, R25, Y26), ((0 + 1) + n27), (m12 + m28)) (fun _ => rfl) ?_
    have r41 : R25 34 3 = some 39 := by rw [hfR39 34 3 (by omega), (fun p k hp => (k18 p k hp).2.2) 34 3 (by omega), (at_r hA (j := 26) rfl)]
    refine yi_D_gr (v := some 39) rfl rfl rfl r41 (fun _ => ?_)
    refine yi_D_run 2 (52, [(5, .inr (.inr (some q7))), (0, .inr (.inr (some 34))), (1, .inl (N : Int)), (2, .inl ((e * B : Nat) : Int)), (3, .inl (B : Int)), (4, .inl ((B * ev : Nat) : Int))], [.inr (.inr (some q7)), .inl (N : Int), .inr (.inr (some 39))], (I23, L24, R25, Y26), ((0 + 1) + n27), (m12 + m28)) (fun _ => rfl) ?_
    refine yi_D_asw rfl (fun _ _ => ?_)
    show yi_D zi_Ms d zi_m307 k (53, [(5, .inr (.inr (some q7))), (0, .inr (.inr (some 34))), (1, .inl (N : Int)), (2, .inl ((e * B : Nat) : Int)), (3, .inl (B : Int)), (4, .inl ((B * ev : Nat) : Int))], [], (I23, L24, (cl_u R25 39 N (some q7)), Y26), ((0 + 1) + n27), (m12 + m28)) _
    generalize w43 : cl_u R25 39 N (some q7) = R42
    refine yi_D_run 2 (56, [(5, .inr (.inr (some q7))), (0, .inr (.inr (some 34))), (1, .inl (N : Int)), (2, .inl ((e * B : Nat) : Int)), (3, .inl (B : Int)), (4, .inl ((B * ev : Nat) : Int))], [.inr (.inr (some 34)), .inr (.inr (some q7))], (I23, L24, R42, Y26), ((0 + 1) + n27), (m12 + m28)) (fun _ => rfl) ?_
    have r44 : I23 34 9 = (n : Int) := by rw [hfI38 34 9 (by omega), (fun p k hp => (k18 p k hp).1) 34 9 (by omega), h349]
    refine yi_D_gi (v := (n : Int)) rfl rfl rfl r44 (fun _ => ?_)
    refine yi_D_callv rfl (p_resizeB (c := Y11.2.2) ⟨by omega, by omega, by omega, by omega, i533⟩ (by rw [← w43, cl_u_ne _ _ (by omega)]; exact i129) ⟨hn.2.1, hn.2.2⟩) ?_
    rintro _ ⟨I45, L46, R47, Y48, n49, m50, c51, rfl, hz52, hL53, hB54⟩
    have hfI55 : ∀ q k, (q < Y26.2.2 ∧ ¬ (q = q7 ∧ k = 1)) → I45 q k = I23 q k := fun q k h => (hz52.2.1 q k h.1).1 h.2
    have hfR56 : ∀ q k, (q < Y26.2.2 ∧ ¬ (q = q7 ∧ k = 0)) → R47 q k = R42 q k := fun q k h => (hz52.2.1 q k h.1).2 h.2
    have hfY57 : ∀ q, q < Y26.2.2 → Y48.1 q = Y26.1 q ∧ Y48.2.1 q = Y26.2.1 q := hz52.2.2.1.2
    have hNN58 := hz52.2.2.1.1
    obtain ⟨z159, z260, z361, z462, z563, z664⟩ := hz52.1
    show yi_D zi_Ms d zi_m307 k (62, [(5, .inr (.inr (some q7))), (0, .inr (.inr (some 34))), (1, .inl (N : Int)), (2, .inl ((e * B : Nat) : Int)), (3, .inl (B : Int)), (4, .inl ((B * ev : Nat) : Int))], [], (I45, L46, R47, Y48), (((0 + 1) + n27) + n49), ((m12 + m28) + m50)) _
    refine yi_D_run 1 (64, [(5, .inr (.inr (some q7))), (0, .inr (.inr (some 34))), (1, .inl (N : Int)), (2, .inl ((e * B : Nat) : Int)), (3, .inl (B : Int)), (4, .inl ((B * ev : Nat) : Int))], [.inr (.inr (some q7))], (I45, L46, R47, Y48), (((0 + 1) + n27) + n49), ((m12 + m28) + m50)) (fun _ => rfl) ?_
    refine yi_D_callv rfl (p_clear (by omega) z159 ⟨by omega, (hB54 (by rw [i432]; omega))⟩) ?_
    rintro _ ⟨L65, rfl, a66, b67⟩
    show yi_D zi_Ms d zi_m307 k (67, [(5, .inr (.inr (some q7))), (0, .inr (.inr (some 34))), (1, .inl (N : Int)), (2, .inl ((e * B : Nat) : Int)), (3, .inl (B : Int)), (4, .inl ((B * ev : Nat) : Int))], [], (I45, L65, R47, Y48), (((0 + 1) + n27) + n49), ((m12 + m28) + m50)) _
    have hrw : rw_S I45 R47 Y48 q7 c51 n := ⟨⟨by omega, z462, by omega, z563, (by rw [(hfY57 q7 (by omega)).1, (i937 q7 (by omega)).1]; exact my16), z664⟩, z159, z260, z361, by omega⟩
    refine yi_D_run 2 (70, [(6, .inl ((e * B : Nat) : Int)), (5, .inr (.inr (some q7))), (0, .inr (.inr (some 34))), (1, .inl (N : Int)), (2, .inl ((e * B : Nat) : Int)), (3, .inl (B : Int)), (4, .inl ((B * ev : Nat) : Int))], [], (I45, L65, R47, Y48), (((0 + 1) + n27) + n49), ((m12 + m28) + m50)) (fun _ => rfl) ?_
    have pt70 : ∀ j70, j70 ≤ k → ∀ (y6 : Int) (G1 : Nat → Nat → Int) (j : Nat), (y6 = ((e * B + j * (B * ev) : Nat) : Int)) → (j ≤ J) → (∀ x, x < 64 * n → rbc G1 c51 x = decide (x < e * B + j * (B * ev) ∧ x / B % ev = e)) → (rkc G1 c51 n) → (∀ q k, q < Y.2.2 → ¬ q = c51 → G1 q k = L q k) → yi_D zi_Ms d zi_m307 j70 (70, [(6, .inl y6), (5, .inr (.inr (some q7))), (0, .inr (.inr (some 34))), (1, .inl (N : Int)), (2, .inl ((e * B : Nat) : Int)), (3, .inl (B : Int)), (4, .inl ((B * ev : Nat) : Int))], [], (I45, G1, R47, Y48), (((0 + 1) + n27) + n49), ((m12 + m28) + m50)) (fun r => ∃ I' L' R' Y' nc ns f c, r = (none, (I', L', R', Y'), nc, ns) ∧ fb_E N f c n I L R Y I' L' R' Y' ∧ (∀ x, x < 64 * n → rbc L' c x = decide (x < T ∧ x / B % ev = e)) ∧ rkc L' c n) := by
      intro j70
      induction j70 with
      | zero => intros; exact yi_D_0
      | succ j70 ih70 =>
      intro hk70 y6 G1 j hy hj hb hk1 hF
      refine yi_D_run1 1 (73, [(6, .inl y6), (5, .inr (.inr (some q7))), (0, .inr (.inr (some 34))), (1, .inl (N : Int)), (2, .inl ((e * B : Nat) : Int)), (3, .inl (B : Int)), (4, .inl ((B * ev : Nat) : Int))], [.inr (.inr (some 34)), .inl y6], (I45, G1, R47, Y48), (((0 + 1) + n27) + n49), ((m12 + m28) + m50)) (fun _ => rfl) ?_
      have r68 : I45 34 2 = (T : Int) := by rw [hfI55 34 2 (by omega), hfI38 34 2 (by omega), (fun p k hp => (k18 p k hp).1) 34 2 (by omega), h342]
      refine yi_D_gi (v := (T : Int)) rfl rfl rfl r68 (fun _ => ?_)
      by_cases h69 : (T : Int) ≤ y6
      · refine yi_D_if2 true rfl (yi_ge_t h69) ?_
        refine yi_D_retv rfl ?_
        have he2 := fb_end (B := B) he.1 hj (by omega)
        have hfN : Y.2.2 ≤ q7 := by omega
        have hcN : Y.2.2 ≤ c51 := by rcases hz52.2.2.2 with ⟨a, -, -⟩ | ⟨a, -, -, -⟩ <;> omega
        refine ⟨_, _, _, _, _, _, q7, c51, rfl, ⟨⟨(by rw [hfR56 39 N (by omega), ← w43, cl_u_eq]), hrw, (hB54 (by rw [i432]; omega))⟩, fun x k hx => ⟨fun h1 => by rw [hfI55 x k (by omega), hfI38 x k (by omega), (fun p k hp => (k18 p k hp).1) x k (by omega)], fun h1 h2 => by rw [hfR56 x k (by omega), ← w43, cl_u_ne _ _ (by omega), hfR39 x k (by omega), (fun p k hp => (k18 p k hp).2.2) x k (by omega)], fun h1 => hF x k hx h1⟩, ⟨by omega, fun x hx => ⟨by rw [(hfY57 x (by omega)).1, (i937 x (by omega)).1, ((fun p hp => k20 p hp) x (by omega)).1], by rw [(hfY57 x (by omega)).2, (i937 x (by omega)).2, ((fun p hp => k20 p hp) x (by omega)).2]⟩⟩, Or.inr ⟨hq5, hfN⟩, Or.inr hcN⟩, fun x hx => by rw [hb x hx, he2, hT], hk1⟩
      · refine yi_D_if2 false rfl (yi_ge_f h69) ?_
        refine yi_D_run 4 (86, [(6, .inl y6), (5, .inr (.inr (some q7))), (0, .inr (.inr (some 34))), (1, .inl (N : Int)), (2, .inl ((e * B : Nat) : Int)), (3, .inl (B : Int)), (4, .inl ((B * ev : Nat) : Int))], [.inl (B : Int), .inl y6, .inl y6, .inr (.inr (some q7))], (I45, G1, R47, Y48), (((0 + 1) + n27) + n49), ((m12 + m28) + m50)) (fun _ => rfl) ?_
        refine yi_D_iadd rfl (y6 + (B : Int)) (yi_wn (by omega) (by omega)) ?_
        have hjJ : e * B + j * (B * ev) + B ≤ J * (B * ev) := by
          have h1 : j < J := by
            by_cases c : j < J
            · exact c
            · exfalso
              have h2 : J * (B * ev) ≤ j * (B * ev) := Nat.mul_le_mul_right _ (by omega)
              omega
          have h3 : (j + 1) * (B * ev) ≤ J * (B * ev) := Nat.mul_le_mul_right _ (by omega)
          have h4 : (e + 1) * B ≤ ev * B := Nat.mul_le_mul_right _ (by omega)
          rw [Nat.add_mul, Nat.one_mul] at h3 h4
          rw [Nat.mul_comm ev B] at h4
          omega
        refine yi_D_callv rfl (p_addRangeI hrw (x := e * B + j * (B * ev)) (y := e * B + j * (B * ev) + B) hy (by omega) ⟨by omega, by omega⟩) ?_
        rintro _ ⟨L70, rfl, a71, b72, c73⟩
        show yi_D zi_Ms d zi_m307 j70 (90, [(6, .inl y6), (5, .inr (.inr (some q7))), (0, .inr (.inr (some 34))), (1, .inl (N : Int)), (2, .inl ((e * B : Nat) : Int)), (3, .inl (B : Int)), (4, .inl ((B * ev : Nat) : Int))], [], (I45, L70, R47, Y48), (((0 + 1) + n27) + n49), ((m12 + m28) + m50)) _
        refine yi_D_run 2 (94, [(6, .inl y6), (5, .inr (.inr (some q7))), (0, .inr (.inr (some 34))), (1, .inl (N : Int)), (2, .inl ((e * B : Nat) : Int)), (3, .inl (B : Int)), (4, .inl ((B * ev : Nat) : Int))], [.inl ((B * ev : Nat) : Int), .inl y6], (I45, L70, R47, Y48), (((0 + 1) + n27) + n49), ((m12 + m28) + m50)) (fun _ => rfl) ?_
        refine yi_D_iadd rfl (y6 + ((B * ev : Nat) : Int)) (yi_wn (by omega) (by omega)) ?_
        refine yi_D_run 2 (70, [(6, .inl (y6 + ((B * ev : Nat) : Int))), (5, .inr (.inr (some q7))), (0, .inr (.inr (some 34))), (1, .inl (N : Int)), (2, .inl ((e * B : Nat) : Int)), (3, .inl (B : Int)), (4, .inl ((B * ev : Nat) : Int))], [], (I45, L70, R47, Y48), (((0 + 1) + n27) + n49), ((m12 + m28) + m50)) (fun _ => rfl) ?_
        exact yi_D_mono (ih70 (by omega) (y6 + ((B * ev : Nat) : Int)) L70 (j + 1) (by rw [Nat.add_mul, Nat.one_mul]; omega) (by by_cases c : j < J; omega; exfalso; have h2 : J * (B * ev) ≤ j * (B * ev) := Nat.mul_le_mul_right _ (by omega); omega) (fun x hx => by rw [a71 x hx, hb x hx]; exact fb_step he.1 x) (b72 hk1) (fun q k h1 h2 => by rw [c73 q k (fun z => h2 z.1)]; exact hF q k h1 h2)) (by omega)
    exact pt70 k (Nat.le_refl _) ((e * B : Nat) : Int) L65 0 (by rw [Nat.zero_mul]; omega) (Nat.zero_le _) (fun x hx => by unfold rbc; rw [a66 _ (by have := hrw.2.2.2.1; omega), yb_0, decide_eq_false]; rintro ⟨h1, h2⟩; rw [Nat.zero_mul, Nat.add_zero] at h1; have := (Nat.div_lt_iff_lt_mul hB).2 h1; rw [Nat.mod_eq_of_lt (by omega)] at h2; omega) (fun k hk => by rw [a66 _ (by have := hrw.2.2.2.1; omega)]; exact b64_0) (fun q k h1 h2 => by rw [b67 q k h2]; rw [hL53 q k (by omega), hfL40 q k (by omega), (fun p k hp => (k18 p k hp).2.1) q k (by omega)])
  | some q6 =>
    obtain ⟨⟨hf1, hf2, hf3⟩, c74, hf4, hf5, hf6, hf7, hf8⟩ := hr q6 hq5
    refine yi_D_run 2 (33, [(5, .inr (.inr (some q6))), (0, .inr (.inr (some 34))), (1, .inl (N : Int)), (2, .inl ((e * B : Nat) : Int)), (3, .inl (B : Int)), (4, .inl ((B * ev : Nat) : Int))], [.inr (.inr (some q6))], (I, L, R, Y), 0, 0) (fun _ => rfl) ?_
    refine yi_D_nsx rfl ?_
    refine yi_D_run 2 (56, [(5, .inr (.inr (some q6))), (0, .inr (.inr (some 34))), (1, .inl (N : Int)), (2, .inl ((e * B : Nat) : Int)), (3, .inl (B : Int)), (4, .inl ((B * ev : Nat) : Int))], [.inr (.inr (some 34)), .inr (.inr (some q6))], (I, L, R, Y), 0, 0) (fun _ => rfl) ?_
    refine yi_D_gi (v := (n : Int)) rfl rfl rfl h349 (fun _ => ?_)
    refine yi_D_callv rfl (p_resizeB ⟨by omega, by omega, by omega, by omega, hf7⟩ hf4 ⟨hn.2.1, hn.2.2⟩) ?_
    rintro _ ⟨I75, L76, R77, Y78, n79, m80, c81, rfl, hz82, hL83, hB84⟩
    have hfI85 : ∀ q k, (q < Y.2.2 ∧ ¬ (q = q6 ∧ k = 1)) → I75 q k = I q k := fun q k h => (hz82.2.1 q k h.1).1 h.2
    have hfR86 : ∀ q k, (q < Y.2.2 ∧ ¬ (q = q6 ∧ k = 0)) → R77 q k = R q k := fun q k h => (hz82.2.1 q k h.1).2 h.2
    have hfY87 : ∀ q, q < Y.2.2 → Y78.1 q = Y.1 q ∧ Y78.2.1 q = Y.2.1 q := hz82.2.2.1.2
    have hNN88 := hz82.2.2.1.1
    obtain ⟨z189, z290, z391, z492, z593, z694⟩ := hz82.1
    show yi_D zi_Ms d zi_m307 k (62, [(5, .inr (.inr (some q6))), (0, .inr (.inr (some 34))), (1, .inl (N : Int)), (2, .inl ((e * B : Nat) : Int)), (3, .inl (B : Int)), (4, .inl ((B * ev : Nat) : Int))], [], (I75, L76, R77, Y78), (0 + n79), (0 + m80)) _
    refine yi_D_run 1 (64, [(5, .inr (.inr (some q6))), (0, .inr (.inr (some 34))), (1, .inl (N : Int)), (2, .inl ((e * B : Nat) : Int)), (3, .inl (B : Int)), (4, .inl ((B * ev : Nat) : Int))], [.inr (.inr (some q6))], (I75, L76, R77, Y78), (0 + n79), (0 + m80)) (fun _ => rfl) ?_
    refine yi_D_callv rfl (p_clear (by omega) z189 ⟨by omega, (hB84 (by exact hf8))⟩) ?_
    rintro _ ⟨L95, rfl, a96, b97⟩
    show yi_D zi_Ms d zi_m307 k (67, [(5, .inr (.inr (some q6))), (0, .inr (.inr (some 34))), (1, .inl (N : Int)), (2, .inl ((e * B : Nat) : Int)), (3, .inl (B : Int)), (4, .inl ((B * ev : Nat) : Int))], [], (I75, L95, R77, Y78), (0 + n79), (0 + m80)) _
    have hrw : rw_S I75 R77 Y78 q6 c81 n := ⟨⟨by omega, z492, by omega, z593, (by rw [(hfY87 q6 (by omega)).1]; exact hf3), z694⟩, z189, z290, z391, by omega⟩
    refine yi_D_run 2 (70, [(6, .inl ((e * B : Nat) : Int)), (5, .inr (.inr (some q6))), (0, .inr (.inr (some 34))), (1, .inl (N : Int)), (2, .inl ((e * B : Nat) : Int)), (3, .inl (B : Int)), (4, .inl ((B * ev : Nat) : Int))], [], (I75, L95, R77, Y78), (0 + n79), (0 + m80)) (fun _ => rfl) ?_
    have pt70 : ∀ j70, j70 ≤ k → ∀ (y6 : Int) (G1 : Nat → Nat → Int) (j : Nat), (y6 = ((e * B + j * (B * ev) : Nat) : Int)) → (j ≤ J) → (∀ x, x < 64 * n → rbc G1 c81 x = decide (x < e * B + j * (B * ev) ∧ x / B % ev = e)) → (rkc G1 c81 n) → (∀ q k, q < Y.2.2 → ¬ q = c81 → G1 q k = L q k) → yi_D zi_Ms d zi_m307 j70 (70, [(6, .inl y6), (5, .inr (.inr (some q6))), (0, .inr (.inr (some 34))), (1, .inl (N : Int)), (2, .inl ((e * B : Nat) : Int)), (3, .inl (B : Int)), (4, .inl ((B * ev : Nat) : Int))], [], (I75, G1, R77, Y78), (0 + n79), (0 + m80)) (fun r => ∃ I' L' R' Y' nc ns f c, r = (none, (I', L', R', Y'), nc, ns) ∧ fb_E N f c n I L R Y I' L' R' Y' ∧ (∀ x, x < 64 * n → rbc L' c x = decide (x < T ∧ x / B % ev = e)) ∧ rkc L' c n) := by
      intro j70
      induction j70 with
      | zero => intros; exact yi_D_0
      | succ j70 ih70 =>
      intro hk70 y6 G1 j hy hj hb hk1 hF
      refine yi_D_run1 1 (73, [(6, .inl y6), (5, .inr (.inr (some q6))), (0, .inr (.inr (some 34))), (1, .inl (N : Int)), (2, .inl ((e * B : Nat) : Int)), (3, .inl (B : Int)), (4, .inl ((B * ev : Nat) : Int))], [.inr (.inr (some 34)), .inl y6], (I75, G1, R77, Y78), (0 + n79), (0 + m80)) (fun _ => rfl) ?_
      have r98 : I75 34 2 = (T : Int) := by rw [hfI85 34 2 (by omega), h342]
      refine yi_D_gi (v := (T : Int)) rfl rfl rfl r98 (fun _ => ?_)
      by_cases h99 : (T : Int) ≤ y6
      · refine yi_D_if2 true rfl (yi_ge_t h99) ?_
        refine yi_D_retv rfl ?_
        have he2 := fb_end (B := B) he.1 hj (by omega)
        have hcN : (R q6 0 = some c81) ∨ Y.2.2 ≤ c81 := by rcases hz82.2.2.2 with ⟨a, -, -⟩ | ⟨a, -, -, -⟩; exact Or.inl (by rw [a]; exact hf4); exact Or.inr (by omega)
        refine ⟨_, _, _, _, _, _, q6, c81, rfl, ⟨⟨(by rw [hfR86 39 N (by omega)]; exact hq5), hrw, (hB84 (by exact hf8))⟩, fun x k hx => ⟨fun h1 => by rw [hfI85 x k (by omega)], fun h1 h2 => by rw [hfR86 x k (by omega)], fun h1 => hF x k hx h1⟩, ⟨by omega, fun x hx => ⟨by rw [(hfY87 x (by omega)).1], by rw [(hfY87 x (by omega)).2]⟩⟩, Or.inl hq5, (hcN.imp (fun h => ⟨hq5, h⟩) id)⟩, fun x hx => by rw [hb x hx, he2, hT], hk1⟩
      · refine yi_D_if2 false rfl (yi_ge_f h99) ?_
        refine yi_D_run 4 (86, [(6, .inl y6), (5, .inr (.inr (some q6))), (0, .inr (.inr (some 34))), (1, .inl (N : Int)), (2, .inl ((e * B : Nat) : Int)), (3, .inl (B : Int)), (4, .inl ((B * ev : Nat) : Int))], [.inl (B : Int), .inl y6, .inl y6, .inr (.inr (some q6))], (I75, G1, R77, Y78), (0 + n79), (0 + m80)) (fun _ => rfl) ?_
        refine yi_D_iadd rfl (y6 + (B : Int)) (yi_wn (by omega) (by omega)) ?_
        have hjJ : e * B + j * (B * ev) + B ≤ J * (B * ev) := by
          have h1 : j < J := by
            by_cases c : j < J
            · exact c
            · exfalso
              have h2 : J * (B * ev) ≤ j * (B * ev) := Nat.mul_le_mul_right _ (by omega)
              omega
          have h3 : (j + 1) * (B * ev) ≤ J * (B * ev) := Nat.mul_le_mul_right _ (by omega)
          have h4 : (e + 1) * B ≤ ev * B := Nat.mul_le_mul_right _ (by omega)
          rw [Nat.add_mul, Nat.one_mul] at h3 h4
          rw [Nat.mul_comm ev B] at h4
          omega
        refine yi_D_callv rfl (p_addRangeI hrw (x := e * B + j * (B * ev)) (y := e * B + j * (B * ev) + B) hy (by omega) ⟨by omega, by omega⟩) ?_
        rintro _ ⟨L100, rfl, a101, b102, c103⟩
        show yi_D zi_Ms d zi_m307 j70 (90, [(6, .inl y6), (5, .inr (.inr (some q6))), (0, .inr (.inr (some 34))), (1, .inl (N : Int)), (2, .inl ((e * B : Nat) : Int)), (3, .inl (B : Int)), (4, .inl ((B * ev : Nat) : Int))], [], (I75, L100, R77, Y78), (0 + n79), (0 + m80)) _
        refine yi_D_run 2 (94, [(6, .inl y6), (5, .inr (.inr (some q6))), (0, .inr (.inr (some 34))), (1, .inl (N : Int)), (2, .inl ((e * B : Nat) : Int)), (3, .inl (B : Int)), (4, .inl ((B * ev : Nat) : Int))], [.inl ((B * ev : Nat) : Int), .inl y6], (I75, L100, R77, Y78), (0 + n79), (0 + m80)) (fun _ => rfl) ?_
        refine yi_D_iadd rfl (y6 + ((B * ev : Nat) : Int)) (yi_wn (by omega) (by omega)) ?_
        refine yi_D_run 2 (70, [(6, .inl (y6 + ((B * ev : Nat) : Int))), (5, .inr (.inr (some q6))), (0, .inr (.inr (some 34))), (1, .inl (N : Int)), (2, .inl ((e * B : Nat) : Int)), (3, .inl (B : Int)), (4, .inl ((B * ev : Nat) : Int))], [], (I75, L100, R77, Y78), (0 + n79), (0 + m80)) (fun _ => rfl) ?_
        exact yi_D_mono (ih70 (by omega) (y6 + ((B * ev : Nat) : Int)) L100 (j + 1) (by rw [Nat.add_mul, Nat.one_mul]; omega) (by by_cases c : j < J; omega; exfalso; have h2 : J * (B * ev) ≤ j * (B * ev) := Nat.mul_le_mul_right _ (by omega); omega) (fun x hx => by rw [a101 x hx, hb x hx]; exact fb_step he.1 x) (b102 hk1) (fun q k h1 h2 => by rw [c103 q k (fun z => h2 z.1)]; exact hF q k h1 h2)) (by omega)
    exact pt70 k (Nat.le_refl _) ((e * B : Nat) : Int) L95 0 (by rw [Nat.zero_mul]; omega) (Nat.zero_le _) (fun x hx => by unfold rbc; rw [a96 _ (by have := hrw.2.2.2.1; omega), yb_0, decide_eq_false]; rintro ⟨h1, h2⟩; rw [Nat.zero_mul, Nat.add_zero] at h1; have := (Nat.div_lt_iff_lt_mul hB).2 h1; rw [Nat.mod_eq_of_lt (by omega)] at h2; omega) (fun k hk => by rw [a96 _ (by have := hrw.2.2.2.1; omega)]; exact b64_0) (fun q k h1 h2 => by rw [b97 q k h2]; rw [hL83 q k (by omega)])
