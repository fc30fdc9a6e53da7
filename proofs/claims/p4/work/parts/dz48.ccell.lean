/-! The class: clauses on 64 futures at once. -/
/-- the words' rows, found -/
def ww_S (I L : Nat → Nat → Int) (R : Nat → Nat → Option Nat) (Y : (Nat → Nat) × (Nat → Nat) × Nat) (n da pe ev : Nat) (W : Nat → Nat → Int) : Prop := (I 34 7 = (da : Int) ∧ I 34 8 = (pe : Int)) ∧ (da ≤ 6 ∧ pe ≤ 4 ∧ ev ≤ 4) ∧ ∀ d x e, d < da → x < pe → e < ev → ∃ f c, R 39 (16 * d + 4 * x + e) = some f ∧ rw_S I R Y f c n ∧ ∀ k, k < n → L c k = W (ev * (pe * d + x) + e) k
/-- a word's cell -/
def wl (W : Nat → Nat → Int) (pe ev p e c d : Nat) : Int := W (ev * (pe * (d - 1) + p) + e) c
def durL (g : Nat → Int) (lo : Nat) : Nat → Int
  | 0 => 0
  | k + 1 => yi_lor (durL g lo k) (g (lo + k))
def prTL (g g' : Nat → Int) : Nat → Int
  | 0 => 0
  | k + 1 => yi_lor (prTL g g' k) (yi_land (g (k + 1)) (g' (k + 1)))
def prAL (g g' : Nat → Int) : Nat → Int
  | 0 => 0
  | k + 1 => yi_lor (prAL g g' k) (yi_land (g (k + 1)) (yi_lxor (durL g' 1 (k + 1)) (-1)))
theorem p_wordCell {d : Nat} {I L : Nat → Nat → Int} {R : Nat → Nat → Option Nat} {Y : (Nat → Nat) × (Nat → Nat) × Nat} (hA : at_T R Y) {n da pe ev : Nat} {W : Nat → Nat → Int} (hw : ww_S I L R Y n da pe ev W) {x y z c : Int} (hx : 0 ≤ x ∧ x < pe) (hy : 1 ≤ y ∧ y ≤ da) (hz : 0 ≤ z ∧ z < ev) (hc : 0 ≤ c ∧ c < n) : yi_P zi_Ms d 313 [.inr (.inr (some 34)), .inl x, .inl y, .inl z, .inl c] (I, L, R, Y) (fun r => r = (some (.inr (.inl (wl W pe ev x.toNat z.toNat c.toNat y.toNat))), (I, L, R, Y), 0, 0)) := by
  refine yi_P_of (M := zi_m313) rfl (fun d k => ?_)
  have bld := hw.2.1
  show yi_D zi_Ms d zi_m313 k (0, [(0, .inr (.inr (some 34))), (1, .inl x), (2, .inl y), (3, .inl z), (4, .inl c)], [], (I, L, R, Y), 0, 0) _
  refine yi_D_run 3 (3, [(0, .inr (.inr (some 34))), (1, .inl x), (2, .inl y), (3, .inl z), (4, .inl c)], [.inl z, .inl y, .inl x], (I, L, R, Y), 0, 0) (fun _ => rfl) ?_
  refine yi_D_calls rfl (p_wordNumber (by omega) (by omega) (by omega)) ?_
  rintro _ rfl
  obtain ⟨wf, wc, wf1, wf2, wf3⟩ := hw.2.2 (y.toNat - 1) x.toNat z.toNat (by omega) (by omega) (by omega)
  obtain ⟨⟨w10, w11, w12, w13, w14, w15⟩, wr, wi, wn⟩ := id wf2
  have hwf : R 39 ((16 * (y - 1) + 4 * x + z).toNat) = some wf := by rw [show (16 * (y - 1) + 4 * x + z).toNat = 16 * (y.toNat - 1) + 4 * x.toNat + z.toNat by omega]; exact wf1
  have hwl := wf3 c.toNat (by omega)
  show yi_D zi_Ms d zi_m313 k (6, [(0, .inr (.inr (some 34))), (1, .inl x), (2, .inl y), (3, .inl z), (4, .inl c)], [.inl (16 * (y - 1) + 4 * x + z)], (I, L, R, Y), 0, 0) _
  refine yi_D_run 2 (10, [(5, .inl (16 * (y - 1) + 4 * x + z)), (0, .inr (.inr (some 34))), (1, .inl x), (2, .inl y), (3, .inl z), (4, .inl c)], [.inl (16 * (y - 1) + 4 * x + z)], (I, L, R, Y), 0, 0) (fun _ => rfl) ?_
  have h1 : ¬ ((16 * (y - 1) + 4 * x + z) < 0) := by omega
  refine yi_D_if1 false rfl (yi_lt_f h1) ?_
  refine yi_D_run 2 (16, [(5, .inl (16 * (y - 1) + 4 * x + z)), (0, .inr (.inr (some 34))), (1, .inl x), (2, .inl y), (3, .inl z), (4, .inl c)], [.inr (.inr (some 34)), .inl (16 * (y - 1) + 4 * x + z)], (I, L, R, Y), 0, 0) (fun _ => rfl) ?_
  refine yi_D_gr (v := some 39) rfl rfl rfl (at_r hA (j := 26) rfl) (fun _ => ?_)
  refine yi_D_len (v := 96) rfl rfl (at_ni hA (j := 7) rfl) ?_
  have h2 : ¬ (96 ≤ (16 * (y - 1) + 4 * x + z)) := by omega
  refine yi_D_if2 false rfl (yi_ge_f h2) ?_
  refine yi_D_run 1 (24, [(5, .inl (16 * (y - 1) + 4 * x + z)), (0, .inr (.inr (some 34))), (1, .inl x), (2, .inl y), (3, .inl z), (4, .inl c)], [.inr (.inr (some 34))], (I, L, R, Y), 0, 0) (fun _ => rfl) ?_
  refine yi_D_gr (v := some 39) rfl rfl rfl (at_r hA (j := 26) rfl) (fun _ => ?_)
  refine yi_D_run 1 (29, [(5, .inl (16 * (y - 1) + 4 * x + z)), (0, .inr (.inr (some 34))), (1, .inl x), (2, .inl y), (3, .inl z), (4, .inl c)], [.inl (16 * (y - 1) + 4 * x + z), .inr (.inr (some 39))], (I, L, R, Y), 0, 0) (fun _ => rfl) ?_
  refine yi_D_rl (v := some wf) rfl rfl hwf (fun _ _ => ?_)
  refine yi_D_run 3 (38, [(6, .inr (.inr (some wf))), (5, .inl (16 * (y - 1) + 4 * x + z)), (0, .inr (.inr (some 34))), (1, .inl x), (2, .inl y), (3, .inl z), (4, .inl c)], [.inr (.inr (some wf))], (I, L, R, Y), 0, 0) (fun _ => rfl) ?_
  refine yi_D_ns rfl ?_
  refine yi_D_run 1 (43, [(6, .inr (.inr (some wf))), (5, .inl (16 * (y - 1) + 4 * x + z)), (0, .inr (.inr (some 34))), (1, .inl x), (2, .inl y), (3, .inl z), (4, .inl c)], [.inl c], (I, L, R, Y), 0, 0) (fun _ => rfl) ?_
  have h3 : ¬ (c < 0) := by omega
  refine yi_D_if1 false rfl (yi_lt_f h3) ?_
  refine yi_D_run 2 (50, [(6, .inr (.inr (some wf))), (5, .inl (16 * (y - 1) + 4 * x + z)), (0, .inr (.inr (some 34))), (1, .inl x), (2, .inl y), (3, .inl z), (4, .inl c)], [.inr (.inr (some wf)), .inl c], (I, L, R, Y), 0, 0) (fun _ => rfl) ?_
  refine yi_D_gr (v := some wc) rfl rfl (Nat.ble_eq_true_of_le (by omega)) wr (fun _ => ?_)
  refine yi_D_len (v := (Y.2.1 wc : Int)) rfl (Nat.ble_eq_true_of_le (by omega)) rfl ?_
  have h4 : ¬ ((Y.2.1 wc : Int) ≤ c) := by omega
  refine yi_D_if2 false rfl (yi_ge_f h4) ?_
  refine yi_D_run 1 (59, [(6, .inr (.inr (some wf))), (5, .inl (16 * (y - 1) + 4 * x + z)), (0, .inr (.inr (some 34))), (1, .inl x), (2, .inl y), (3, .inl z), (4, .inl c)], [.inr (.inr (some wf))], (I, L, R, Y), 0, 0) (fun _ => rfl) ?_
  refine yi_D_gr (v := some wc) rfl rfl (Nat.ble_eq_true_of_le (by omega)) wr (fun _ => ?_)
  refine yi_D_run 1 (64, [(6, .inr (.inr (some wf))), (5, .inl (16 * (y - 1) + 4 * x + z)), (0, .inr (.inr (some 34))), (1, .inl x), (2, .inl y), (3, .inl z), (4, .inl c)], [.inl c, .inr (.inr (some wc))], (I, L, R, Y), 0, 0) (fun _ => rfl) ?_
  refine yi_D_ll (v := wl W pe ev x.toNat z.toNat c.toNat y.toNat) rfl (Nat.ble_eq_true_of_le (by omega)) hwl (fun _ _ => ?_)
  refine yi_D_run 1 (69, [(6, .inr (.inr (some wf))), (5, .inl (16 * (y - 1) + 4 * x + z)), (0, .inr (.inr (some 34))), (1, .inl x), (2, .inl y), (3, .inl z), (4, .inl c)], [.inr (.inl (wl W pe ev x.toNat z.toNat c.toNat y.toNat))], (I, L, R, Y), 0, 0) (fun _ => rfl) ?_
  refine yi_D_retl rfl ?_
  rfl
theorem p_duringCell {d : Nat} {I L : Nat → Nat → Int} {R : Nat → Nat → Option Nat} {Y : (Nat → Nat) × (Nat → Nat) × Nat} (hA : at_T R Y) {n da pe ev : Nat} {W : Nat → Nat → Int} (hw : ww_S I L R Y n da pe ev W) {x y c : Int} {who e lo hi : Nat} (h2 : yi_iand (yi_shr x 8) 15 = (e : Int)) (h3 : yi_iand (yi_shr x 12) 15 = (lo : Int)) (h4 : yi_iand (yi_shr x 16) 15 = (hi : Int)) (hy : 0 ≤ y ∧ y < pe) (he : e < ev) (hl : 1 ≤ lo ∧ hi ≤ da ∧ lo ≤ hi + 1) (hc : 0 ≤ c ∧ c < n) : yi_P zi_Ms d 306 [.inr (.inr (some 34)), .inl x, .inl y, .inl c] (I, L, R, Y) (fun r => r = (some (.inr (.inl (durL (wl W pe ev y.toNat e c.toNat) lo (hi + 1 - lo)))), (I, L, R, Y), 0, 0)) := by
  refine yi_P_of (M := zi_m306) rfl (fun d k => ?_)
  have bld := hw.2.1
  show yi_D zi_Ms d zi_m306 k (0, [(0, .inr (.inr (some 34))), (1, .inl x), (2, .inl y), (3, .inl c)], [], (I, L, R, Y), 0, 0) _
  refine yi_D_run 14 (21, [(5, .inl (yi_iand (yi_shr x 12) 15)), (4, .inl (yi_iand (yi_shr x 8) 15)), (0, .inr (.inr (some 34))), (1, .inl x), (2, .inl y), (3, .inl c)], [.inl 16, .inl x], (I, L, R, Y), 0, 0) (fun _ => rfl) ?_
  refine yi_D_run 8 (34, [(9, .inl (yi_iand (yi_shr x 12) 15)), (7, .inr (.inl 0)), (6, .inl (yi_iand (yi_shr x 16) 15)), (5, .inl (yi_iand (yi_shr x 12) 15)), (4, .inl (yi_iand (yi_shr x 8) 15)), (0, .inr (.inr (some 34))), (1, .inl x), (2, .inl y), (3, .inl c)], [], (I, L, R, Y), 0, 0) (fun _ => rfl) ?_
  rw [h2, h3, h4]
  have pt34 : ∀ j34, j34 ≤ k → ∀ (y9 : Int) (z7 : Int), ((lo : Int) ≤ y9 ∧ y9 ≤ (hi : Int) + 1) → (z7 = durL (wl W pe ev y.toNat e c.toNat) lo (y9 - lo).toNat) → yi_D zi_Ms d zi_m306 j34 (34, [(9, .inl y9), (7, .inr (.inl z7)), (6, .inl (hi : Int)), (5, .inl (lo : Int)), (4, .inl (e : Int)), (0, .inr (.inr (some 34))), (1, .inl x), (2, .inl y), (3, .inl c)], [], (I, L, R, Y), 0, 0) (fun r => r = (some (.inr (.inl (durL (wl W pe ev y.toNat e c.toNat) lo (hi + 1 - lo)))), (I, L, R, Y), 0, 0)) := by
    intro j34
    induction j34 with
    | zero => intros; exact yi_D_0
    | succ j34 ih34 =>
    intro hk34 y9 z7 hy9 hd
    refine yi_D_run1 1 (38, [(9, .inl y9), (7, .inr (.inl z7)), (6, .inl (hi : Int)), (5, .inl (lo : Int)), (4, .inl (e : Int)), (0, .inr (.inr (some 34))), (1, .inl x), (2, .inl y), (3, .inl c)], [.inl (hi : Int), .inl y9], (I, L, R, Y), 0, 0) (fun _ => rfl) ?_
    by_cases h1 : (hi : Int) < y9
    · refine yi_D_if2 true rfl (yi_gt_t h1) ?_
      refine yi_D_run 1 (64, [(9, .inl y9), (7, .inr (.inl z7)), (6, .inl (hi : Int)), (5, .inl (lo : Int)), (4, .inl (e : Int)), (0, .inr (.inr (some 34))), (1, .inl x), (2, .inl y), (3, .inl c)], [.inr (.inl z7)], (I, L, R, Y), 0, 0) (fun _ => rfl) ?_
      refine yi_D_retl rfl ?_
      rw [hd, show (y9 - lo).toNat = hi + 1 - lo by omega]
    · refine yi_D_if2 false rfl (yi_gt_f h1) ?_
      refine yi_D_run 6 (50, [(9, .inl y9), (7, .inr (.inl z7)), (6, .inl (hi : Int)), (5, .inl (lo : Int)), (4, .inl (e : Int)), (0, .inr (.inr (some 34))), (1, .inl x), (2, .inl y), (3, .inl c)], [.inl c, .inl (e : Int), .inl y9, .inl y, .inr (.inr (some 34)), .inr (.inl z7)], (I, L, R, Y), 0, 0) (fun _ => rfl) ?_
      refine yi_D_callv rfl (p_wordCell hA hw (c := c) (by omega) (by omega) (by omega) hc) ?_
      rintro _ rfl
      show yi_D zi_Ms d zi_m306 j34 (53, [(9, .inl y9), (7, .inr (.inl z7)), (6, .inl (hi : Int)), (5, .inl (lo : Int)), (4, .inl (e : Int)), (0, .inr (.inr (some 34))), (1, .inl x), (2, .inl y), (3, .inl c)], [.inr (.inl (wl W pe ev y.toNat e c.toNat y9.toNat)), .inr (.inl z7)], (I, L, R, Y), 0, 0) _
      refine yi_D_run 2 (56, [(7, .inr (.inl (yi_lor z7 (wl W pe ev y.toNat e c.toNat y9.toNat)))), (9, .inl y9), (6, .inl (hi : Int)), (5, .inl (lo : Int)), (4, .inl (e : Int)), (0, .inr (.inr (some 34))), (1, .inl x), (2, .inl y), (3, .inl c)], [], (I, L, R, Y), 0, 0) (fun _ => rfl) ?_
      refine yi_D_iinc [(9, .inl (y9 + 1)), (7, .inr (.inl (yi_lor z7 (wl W pe ev y.toNat e c.toNat y9.toNat)))), (6, .inl (hi : Int)), (5, .inl (lo : Int)), (4, .inl (e : Int)), (0, .inr (.inr (some 34))), (1, .inl x), (2, .inl y), (3, .inl c)] rfl rfl rfl (by rw [show yi_w (y9 + 1) = y9 + 1 from (yi_wn (by omega) (by omega)).trans (by omega)]; rfl) ?_
      refine yi_D_run 1 (34, [(9, .inl (y9 + 1)), (7, .inr (.inl (yi_lor z7 (wl W pe ev y.toNat e c.toNat y9.toNat)))), (6, .inl (hi : Int)), (5, .inl (lo : Int)), (4, .inl (e : Int)), (0, .inr (.inr (some 34))), (1, .inl x), (2, .inl y), (3, .inl c)], [], (I, L, R, Y), 0, 0) (fun _ => rfl) ?_
      exact yi_D_mono (ih34 (by omega) (y9 + 1) (yi_lor z7 (wl W pe ev y.toNat e c.toNat y9.toNat)) (by omega) (by rw [show (y9 + 1 - lo).toNat = (y9 - lo).toNat + 1 by omega, hd]; show _ = yi_lor (durL (wl W pe ev y.toNat e c.toNat) lo (y9 - lo).toNat) (wl W pe ev y.toNat e c.toNat (lo + (y9 - lo).toNat)); rw [show lo + (y9 - lo).toNat = y9.toNat by omega])) (by omega)
  exact pt34 k (Nat.le_refl _) (lo : Int) 0 (by omega) (by rw [show ((lo : Int) - lo).toNat = 0 by omega]; rfl)
theorem p_pairCell {d : Nat} {I L : Nat → Nat → Int} {R : Nat → Nat → Option Nat} {Y : (Nat → Nat) × (Nat → Nat) × Nat} (hA : at_T R Y) {n da pe ev : Nat} {W : Nat → Nat → Int} (hw : ww_S I L R Y n da pe ev W) {x c : Int} {who e two : Nat} (hd1 : yi_iand (yi_shr x 4) 15 = (who : Int)) (hd2 : yi_iand (yi_shr x 8) 15 = (e : Int)) (hd3 : yi_iand (yi_shr x 12) 15 = (two : Int)) (hp : who < pe ∧ two < pe) (he : e < ev) (hc : 0 ≤ c ∧ c < n) : yi_P zi_Ms d 308 [.inr (.inr (some 34)), .inl x, .inl c] (I, L, R, Y) (fun r => r = (some (.inr (.inl (if yi_iand x 15 = 7 then prAL (wl W pe ev who e c.toNat) (wl W pe ev two e c.toNat) da else prTL (wl W pe ev who e c.toNat) (wl W pe ev two e c.toNat) da))), (I, L, R, Y), 0, 0)) := by
  refine yi_P_of (M := zi_m308) rfl (fun d k => ?_)
  have bld := hw.2.1
  show yi_D zi_Ms d zi_m308 k (0, [(0, .inr (.inr (some 34))), (1, .inl x), (2, .inl c)], [], (I, L, R, Y), 0, 0) _
  refine yi_D_run 14 (19, [(4, .inl (yi_iand (yi_shr x 8) 15)), (3, .inl (yi_iand (yi_shr x 4) 15)), (0, .inr (.inr (some 34))), (1, .inl x), (2, .inl c)], [.inl 12, .inl x], (I, L, R, Y), 0, 0) (fun _ => rfl) ?_
  refine yi_D_run 8 (31, [(5, .inl (yi_iand (yi_shr x 12) 15)), (4, .inl (yi_iand (yi_shr x 8) 15)), (3, .inl (yi_iand (yi_shr x 4) 15)), (0, .inr (.inr (some 34))), (1, .inl x), (2, .inl c)], [.inl 7, .inl (yi_iand x 15)], (I, L, R, Y), 0, 0) (fun _ => rfl) ?_
  by_cases h1 : (yi_iand x 15) = 7
  · refine yi_D_if2 false rfl (yi_ne_f h1) ?_
    refine yi_D_run 9 (50, [(11, .inl 1), (9, .inr (.inl 0)), (7, .inr (.inl 0)), (6, .inl 1), (5, .inl (yi_iand (yi_shr x 12) 15)), (4, .inl (yi_iand (yi_shr x 8) 15)), (3, .inl (yi_iand (yi_shr x 4) 15)), (0, .inr (.inr (some 34))), (1, .inl x), (2, .inl c)], [], (I, L, R, Y), 0, 0) (fun _ => rfl) ?_
    rw [hd1, hd2, hd3]
    have pt50 : ∀ j50, j50 ≤ k → ∀ (y11 : Int) (z9 : Int) (z7 : Int) (z12 : Int) (z14 : Int), (1 ≤ y11 ∧ y11 ≤ (da : Int) + 1) → (z9 = durL (wl W pe ev two e c.toNat) 1 (y11 - 1).toNat) → (z7 = prAL (wl W pe ev who e c.toNat) (wl W pe ev two e c.toNat) (y11 - 1).toNat) → yi_D zi_Ms d zi_m308 j50 (50, [(11, .inl y11), (9, .inr (.inl z9)), (7, .inr (.inl z7)), (6, .inl 1), (5, .inl (two : Int)), (4, .inl (e : Int)), (3, .inl (who : Int)), (0, .inr (.inr (some 34))), (1, .inl x), (2, .inl c), (12, .inr (.inl z12)), (14, .inr (.inl z14))], [], (I, L, R, Y), 0, 0) (fun r => r = (some (.inr (.inl (if yi_iand x 15 = 7 then prAL (wl W pe ev who e c.toNat) (wl W pe ev two e c.toNat) da else prTL (wl W pe ev who e c.toNat) (wl W pe ev two e c.toNat) da))), (I, L, R, Y), 0, 0)) := by
      intro j50
      induction j50 with
      | zero => intros; exact yi_D_0
      | succ j50 ih50 =>
      intro hk50 y11 z9 z7 z12 z14 hy11 hq9 hq7
      refine yi_D_run1 1 (53, [(11, .inl y11), (9, .inr (.inl z9)), (7, .inr (.inl z7)), (6, .inl 1), (5, .inl (two : Int)), (4, .inl (e : Int)), (3, .inl (who : Int)), (0, .inr (.inr (some 34))), (1, .inl x), (2, .inl c), (12, .inr (.inl z12)), (14, .inr (.inl z14))], [.inr (.inr (some 34)), .inl y11], (I, L, R, Y), 0, 0) (fun _ => rfl) ?_
      refine yi_D_gi (v := (da : Int)) rfl rfl rfl hw.1.1 (fun _ => ?_)
      by_cases h2 : (da : Int) < y11
      · refine yi_D_if2 true rfl (yi_gt_t h2) ?_
        refine yi_D_run 1 (123, [(11, .inl y11), (9, .inr (.inl z9)), (7, .inr (.inl z7)), (6, .inl 1), (5, .inl (two : Int)), (4, .inl (e : Int)), (3, .inl (who : Int)), (0, .inr (.inr (some 34))), (1, .inl x), (2, .inl c), (12, .inr (.inl z12)), (14, .inr (.inl z14))], [.inr (.inl z7)], (I, L, R, Y), 0, 0) (fun _ => rfl) ?_
        refine yi_D_retl rfl ?_
        rw [hq7, show (y11 - 1).toNat = da by omega, if_pos (by assumption)]
      · refine yi_D_if2 false rfl (yi_gt_f h2) ?_
        refine yi_D_run 5 (66, [(11, .inl y11), (9, .inr (.inl z9)), (7, .inr (.inl z7)), (6, .inl 1), (5, .inl (two : Int)), (4, .inl (e : Int)), (3, .inl (who : Int)), (0, .inr (.inr (some 34))), (1, .inl x), (2, .inl c), (12, .inr (.inl z12)), (14, .inr (.inl z14))], [.inl c, .inl (e : Int), .inl y11, .inl (who : Int), .inr (.inr (some 34))], (I, L, R, Y), 0, 0) (fun _ => rfl) ?_
        refine yi_D_callv rfl (p_wordCell hA hw (c := c) (by omega) (by omega) (by omega) hc) ?_
        rintro _ rfl
        show yi_D zi_Ms d zi_m308 j50 (69, [(11, .inl y11), (9, .inr (.inl z9)), (7, .inr (.inl z7)), (6, .inl 1), (5, .inl (two : Int)), (4, .inl (e : Int)), (3, .inl (who : Int)), (0, .inr (.inr (some 34))), (1, .inl x), (2, .inl c), (12, .inr (.inl z12)), (14, .inr (.inl z14))], [.inr (.inl (wl W pe ev who e c.toNat y11.toNat))], (I, L, R, Y), 0, 0) _
        refine yi_D_run 6 (79, [(12, .inr (.inl (wl W pe ev who e c.toNat y11.toNat))), (11, .inl y11), (9, .inr (.inl z9)), (7, .inr (.inl z7)), (6, .inl 1), (5, .inl (two : Int)), (4, .inl (e : Int)), (3, .inl (who : Int)), (0, .inr (.inr (some 34))), (1, .inl x), (2, .inl c), (14, .inr (.inl z14))], [.inl c, .inl (e : Int), .inl y11, .inl (two : Int), .inr (.inr (some 34))], (I, L, R, Y), 0, 0) (fun _ => rfl) ?_
        refine yi_D_callv rfl (p_wordCell hA hw (c := c) (by omega) (by omega) (by omega) hc) ?_
        rintro _ rfl
        show yi_D zi_Ms d zi_m308 j50 (82, [(12, .inr (.inl (wl W pe ev who e c.toNat y11.toNat))), (11, .inl y11), (9, .inr (.inl z9)), (7, .inr (.inl z7)), (6, .inl 1), (5, .inl (two : Int)), (4, .inl (e : Int)), (3, .inl (who : Int)), (0, .inr (.inr (some 34))), (1, .inl x), (2, .inl c), (14, .inr (.inl z14))], [.inr (.inl (wl W pe ev two e c.toNat y11.toNat))], (I, L, R, Y), 0, 0) _
        refine yi_D_run 8 (97, [(9, .inr (.inl (yi_lor z9 (wl W pe ev two e c.toNat y11.toNat)))), (14, .inr (.inl (wl W pe ev two e c.toNat y11.toNat))), (12, .inr (.inl (wl W pe ev who e c.toNat y11.toNat))), (11, .inl y11), (7, .inr (.inl z7)), (6, .inl 1), (5, .inl (two : Int)), (4, .inl (e : Int)), (3, .inl (who : Int)), (0, .inr (.inr (some 34))), (1, .inl x), (2, .inl c)], [.inl 1, .inr (.inl (wl W pe ev who e c.toNat y11.toNat)), .inr (.inl z7)], (I, L, R, Y), 0, 0) (fun _ => rfl) ?_
        refine yi_D_if1 false rfl (by decide) ?_
        refine yi_D_run 1 (102, [(9, .inr (.inl (yi_lor z9 (wl W pe ev two e c.toNat y11.toNat)))), (14, .inr (.inl (wl W pe ev two e c.toNat y11.toNat))), (12, .inr (.inl (wl W pe ev who e c.toNat y11.toNat))), (11, .inl y11), (7, .inr (.inl z7)), (6, .inl 1), (5, .inl (two : Int)), (4, .inl (e : Int)), (3, .inl (who : Int)), (0, .inr (.inr (some 34))), (1, .inl x), (2, .inl c)], [.inr (.inl (yi_lor z9 (wl W pe ev two e c.toNat y11.toNat))), .inr (.inl (wl W pe ev who e c.toNat y11.toNat)), .inr (.inl z7)], (I, L, R, Y), 0, 0) (fun _ => rfl) ?_
        refine yi_D_ldc2 ((-1)) rfl (by decide +kernel) ?_
        refine yi_D_run 5 (115, [(7, .inr (.inl (yi_lor z7 (yi_land (wl W pe ev who e c.toNat y11.toNat) (yi_lxor (yi_lor z9 (wl W pe ev two e c.toNat y11.toNat)) (-1)))))), (9, .inr (.inl (yi_lor z9 (wl W pe ev two e c.toNat y11.toNat)))), (14, .inr (.inl (wl W pe ev two e c.toNat y11.toNat))), (12, .inr (.inl (wl W pe ev who e c.toNat y11.toNat))), (11, .inl y11), (6, .inl 1), (5, .inl (two : Int)), (4, .inl (e : Int)), (3, .inl (who : Int)), (0, .inr (.inr (some 34))), (1, .inl x), (2, .inl c)], [], (I, L, R, Y), 0, 0) (fun _ => rfl) ?_
        refine yi_D_iinc [(11, .inl (y11 + 1)), (7, .inr (.inl (yi_lor z7 (yi_land (wl W pe ev who e c.toNat y11.toNat) (yi_lxor (yi_lor z9 (wl W pe ev two e c.toNat y11.toNat)) (-1)))))), (9, .inr (.inl (yi_lor z9 (wl W pe ev two e c.toNat y11.toNat)))), (14, .inr (.inl (wl W pe ev two e c.toNat y11.toNat))), (12, .inr (.inl (wl W pe ev who e c.toNat y11.toNat))), (6, .inl 1), (5, .inl (two : Int)), (4, .inl (e : Int)), (3, .inl (who : Int)), (0, .inr (.inr (some 34))), (1, .inl x), (2, .inl c)] rfl rfl rfl (by rw [show yi_w (y11 + 1) = y11 + 1 from (yi_wn (by omega) (by omega)).trans (by omega)]; rfl) ?_
        refine yi_D_run 1 (50, [(11, .inl (y11 + 1)), (7, .inr (.inl (yi_lor z7 (yi_land (wl W pe ev who e c.toNat y11.toNat) (yi_lxor (yi_lor z9 (wl W pe ev two e c.toNat y11.toNat)) (-1)))))), (9, .inr (.inl (yi_lor z9 (wl W pe ev two e c.toNat y11.toNat)))), (14, .inr (.inl (wl W pe ev two e c.toNat y11.toNat))), (12, .inr (.inl (wl W pe ev who e c.toNat y11.toNat))), (6, .inl 1), (5, .inl (two : Int)), (4, .inl (e : Int)), (3, .inl (who : Int)), (0, .inr (.inr (some 34))), (1, .inl x), (2, .inl c)], [], (I, L, R, Y), 0, 0) (fun _ => rfl) ?_
        refine yi_D_al (al := [(11, .inl (y11 + 1)), (9, .inr (.inl (yi_lor z9 (wl W pe ev two e c.toNat y11.toNat)))), (7, .inr (.inl (yi_lor z7 (yi_land (wl W pe ev who e c.toNat y11.toNat) (yi_lxor (yi_lor z9 (wl W pe ev two e c.toNat y11.toNat)) (-1)))))), (6, .inl 1), (5, .inl (two : Int)), (4, .inl (e : Int)), (3, .inl (who : Int)), (0, .inr (.inr (some 34))), (1, .inl x), (2, .inl c), (12, .inr (.inl (wl W pe ev who e c.toNat y11.toNat))), (14, .inr (.inl (wl W pe ev two e c.toNat y11.toNat)))]) (show ([11, 9, 7, 6, 5, 4, 3, 0, 1, 2, 12, 14] : List Nat).Nodup by decide) (show ([11, 7, 9, 14, 12, 6, 5, 4, 3, 0, 1, 2] : List Nat).Nodup by decide) (yi_mc (List.mem_of_getElem? (i := 0) rfl) (yi_mc (List.mem_of_getElem? (i := 2) rfl) (yi_mc (List.mem_of_getElem? (i := 1) rfl) (yi_mc (List.mem_of_getElem? (i := 11) rfl) (yi_mc (List.mem_of_getElem? (i := 10) rfl) (yi_mc (List.mem_of_getElem? (i := 3) rfl) (yi_mc (List.mem_of_getElem? (i := 4) rfl) (yi_mc (List.mem_of_getElem? (i := 5) rfl) (yi_mc (List.mem_of_getElem? (i := 6) rfl) (yi_mc (List.mem_of_getElem? (i := 7) rfl) (yi_mc (List.mem_of_getElem? (i := 8) rfl) (yi_mc (List.mem_of_getElem? (i := 9) rfl) yi_mn)))))))))))) ?_
        exact yi_D_mono (ih50 (by omega) (y11 + 1) (yi_lor z9 (wl W pe ev two e c.toNat y11.toNat)) (yi_lor z7 (yi_land (wl W pe ev who e c.toNat y11.toNat) (yi_lxor (yi_lor z9 (wl W pe ev two e c.toNat y11.toNat)) (-1)))) (wl W pe ev who e c.toNat y11.toNat) (wl W pe ev two e c.toNat y11.toNat) (by omega) (by rw [show (y11 + 1 - 1).toNat = (y11 - 1).toNat + 1 by omega, hq9]; show _ = yi_lor (durL (wl W pe ev two e c.toNat) 1 (y11 - 1).toNat) (wl W pe ev two e c.toNat (1 + (y11 - 1).toNat)); rw [show 1 + (y11 - 1).toNat = y11.toNat by omega]) (by rw [show (y11 + 1 - 1).toNat = (y11 - 1).toNat + 1 by omega, hq7]; show _ = yi_lor (prAL (wl W pe ev who e c.toNat) (wl W pe ev two e c.toNat) (y11 - 1).toNat) (yi_land (wl W pe ev who e c.toNat ((y11 - 1).toNat + 1)) (yi_lxor (durL (wl W pe ev two e c.toNat) 1 ((y11 - 1).toNat + 1)) (-1))); rw [show durL (wl W pe ev two e c.toNat) 1 ((y11 - 1).toNat + 1) = yi_lor (durL (wl W pe ev two e c.toNat) 1 (y11 - 1).toNat) (wl W pe ev two e c.toNat (1 + (y11 - 1).toNat)) from rfl, show 1 + (y11 - 1).toNat = y11.toNat by omega, show (y11 - 1).toNat + 1 = y11.toNat by omega, hq9])) (by omega)
    refine yi_D_al (al := [(11, .inl 1), (9, .inr (.inl 0)), (7, .inr (.inl 0)), (6, .inl 1), (5, .inl (two : Int)), (4, .inl (e : Int)), (3, .inl (who : Int)), (0, .inr (.inr (some 34))), (1, .inl x), (2, .inl c), (12, .inr (.inl 0)), (14, .inr (.inl 0))]) (show ([11, 9, 7, 6, 5, 4, 3, 0, 1, 2, 12, 14] : List Nat).Nodup by decide) (show ([11, 9, 7, 6, 5, 4, 3, 0, 1, 2] : List Nat).Nodup by decide) (yi_mc (List.mem_of_getElem? (i := 0) rfl) (yi_mc (List.mem_of_getElem? (i := 1) rfl) (yi_mc (List.mem_of_getElem? (i := 2) rfl) (yi_mc (List.mem_of_getElem? (i := 3) rfl) (yi_mc (List.mem_of_getElem? (i := 4) rfl) (yi_mc (List.mem_of_getElem? (i := 5) rfl) (yi_mc (List.mem_of_getElem? (i := 6) rfl) (yi_mc (List.mem_of_getElem? (i := 7) rfl) (yi_mc (List.mem_of_getElem? (i := 8) rfl) (yi_mc (List.mem_of_getElem? (i := 9) rfl) yi_mn)))))))))) ?_
    exact pt50 k (Nat.le_refl _) 1 0 0 0 0 (by omega) (by rw [show ((1 : Int) - 1).toNat = 0 by omega]; rfl) (by rw [show ((1 : Int) - 1).toNat = 0 by omega]; rfl)
  · refine yi_D_if2 true rfl (yi_ne_t h1) ?_
    refine yi_D_run 8 (50, [(11, .inl 1), (9, .inr (.inl 0)), (7, .inr (.inl 0)), (6, .inl 0), (5, .inl (yi_iand (yi_shr x 12) 15)), (4, .inl (yi_iand (yi_shr x 8) 15)), (3, .inl (yi_iand (yi_shr x 4) 15)), (0, .inr (.inr (some 34))), (1, .inl x), (2, .inl c)], [], (I, L, R, Y), 0, 0) (fun _ => rfl) ?_
    rw [hd1, hd2, hd3]
    have pt50 : ∀ j50, j50 ≤ k → ∀ (y11 : Int) (z9 : Int) (z7 : Int) (z12 : Int) (z14 : Int), (1 ≤ y11 ∧ y11 ≤ (da : Int) + 1) → (z9 = durL (wl W pe ev two e c.toNat) 1 (y11 - 1).toNat) → (z7 = prTL (wl W pe ev who e c.toNat) (wl W pe ev two e c.toNat) (y11 - 1).toNat) → yi_D zi_Ms d zi_m308 j50 (50, [(11, .inl y11), (9, .inr (.inl z9)), (7, .inr (.inl z7)), (6, .inl 0), (5, .inl (two : Int)), (4, .inl (e : Int)), (3, .inl (who : Int)), (0, .inr (.inr (some 34))), (1, .inl x), (2, .inl c), (12, .inr (.inl z12)), (14, .inr (.inl z14))], [], (I, L, R, Y), 0, 0) (fun r => r = (some (.inr (.inl (if yi_iand x 15 = 7 then prAL (wl W pe ev who e c.toNat) (wl W pe ev two e c.toNat) da else prTL (wl W pe ev who e c.toNat) (wl W pe ev two e c.toNat) da))), (I, L, R, Y), 0, 0)) := by
      intro j50
      induction j50 with
      | zero => intros; exact yi_D_0
      | succ j50 ih50 =>
      intro hk50 y11 z9 z7 z12 z14 hy11 hq9 hq7
      refine yi_D_run1 1 (53, [(11, .inl y11), (9, .inr (.inl z9)), (7, .inr (.inl z7)), (6, .inl 0), (5, .inl (two : Int)), (4, .inl (e : Int)), (3, .inl (who : Int)), (0, .inr (.inr (some 34))), (1, .inl x), (2, .inl c), (12, .inr (.inl z12)), (14, .inr (.inl z14))], [.inr (.inr (some 34)), .inl y11], (I, L, R, Y), 0, 0) (fun _ => rfl) ?_
      refine yi_D_gi (v := (da : Int)) rfl rfl rfl hw.1.1 (fun _ => ?_)
      by_cases h3 : (da : Int) < y11
      · refine yi_D_if2 true rfl (yi_gt_t h3) ?_
        refine yi_D_run 1 (123, [(11, .inl y11), (9, .inr (.inl z9)), (7, .inr (.inl z7)), (6, .inl 0), (5, .inl (two : Int)), (4, .inl (e : Int)), (3, .inl (who : Int)), (0, .inr (.inr (some 34))), (1, .inl x), (2, .inl c), (12, .inr (.inl z12)), (14, .inr (.inl z14))], [.inr (.inl z7)], (I, L, R, Y), 0, 0) (fun _ => rfl) ?_
        refine yi_D_retl rfl ?_
        rw [hq7, show (y11 - 1).toNat = da by omega, if_neg (by assumption)]
      · refine yi_D_if2 false rfl (yi_gt_f h3) ?_
        refine yi_D_run 5 (66, [(11, .inl y11), (9, .inr (.inl z9)), (7, .inr (.inl z7)), (6, .inl 0), (5, .inl (two : Int)), (4, .inl (e : Int)), (3, .inl (who : Int)), (0, .inr (.inr (some 34))), (1, .inl x), (2, .inl c), (12, .inr (.inl z12)), (14, .inr (.inl z14))], [.inl c, .inl (e : Int), .inl y11, .inl (who : Int), .inr (.inr (some 34))], (I, L, R, Y), 0, 0) (fun _ => rfl) ?_
        refine yi_D_callv rfl (p_wordCell hA hw (c := c) (by omega) (by omega) (by omega) hc) ?_
        rintro _ rfl
        show yi_D zi_Ms d zi_m308 j50 (69, [(11, .inl y11), (9, .inr (.inl z9)), (7, .inr (.inl z7)), (6, .inl 0), (5, .inl (two : Int)), (4, .inl (e : Int)), (3, .inl (who : Int)), (0, .inr (.inr (some 34))), (1, .inl x), (2, .inl c), (12, .inr (.inl z12)), (14, .inr (.inl z14))], [.inr (.inl (wl W pe ev who e c.toNat y11.toNat))], (I, L, R, Y), 0, 0) _
        refine yi_D_run 6 (79, [(12, .inr (.inl (wl W pe ev who e c.toNat y11.toNat))), (11, .inl y11), (9, .inr (.inl z9)), (7, .inr (.inl z7)), (6, .inl 0), (5, .inl (two : Int)), (4, .inl (e : Int)), (3, .inl (who : Int)), (0, .inr (.inr (some 34))), (1, .inl x), (2, .inl c), (14, .inr (.inl z14))], [.inl c, .inl (e : Int), .inl y11, .inl (two : Int), .inr (.inr (some 34))], (I, L, R, Y), 0, 0) (fun _ => rfl) ?_
        refine yi_D_callv rfl (p_wordCell hA hw (c := c) (by omega) (by omega) (by omega) hc) ?_
        rintro _ rfl
        show yi_D zi_Ms d zi_m308 j50 (82, [(12, .inr (.inl (wl W pe ev who e c.toNat y11.toNat))), (11, .inl y11), (9, .inr (.inl z9)), (7, .inr (.inl z7)), (6, .inl 0), (5, .inl (two : Int)), (4, .inl (e : Int)), (3, .inl (who : Int)), (0, .inr (.inr (some 34))), (1, .inl x), (2, .inl c), (14, .inr (.inl z14))], [.inr (.inl (wl W pe ev two e c.toNat y11.toNat))], (I, L, R, Y), 0, 0) _
        refine yi_D_run 8 (97, [(9, .inr (.inl (yi_lor z9 (wl W pe ev two e c.toNat y11.toNat)))), (14, .inr (.inl (wl W pe ev two e c.toNat y11.toNat))), (12, .inr (.inl (wl W pe ev who e c.toNat y11.toNat))), (11, .inl y11), (7, .inr (.inl z7)), (6, .inl 0), (5, .inl (two : Int)), (4, .inl (e : Int)), (3, .inl (who : Int)), (0, .inr (.inr (some 34))), (1, .inl x), (2, .inl c)], [.inl 0, .inr (.inl (wl W pe ev who e c.toNat y11.toNat)), .inr (.inl z7)], (I, L, R, Y), 0, 0) (fun _ => rfl) ?_
        refine yi_D_if1 true rfl (by decide) ?_
        refine yi_D_run 4 (115, [(7, .inr (.inl (yi_lor z7 (yi_land (wl W pe ev who e c.toNat y11.toNat) (wl W pe ev two e c.toNat y11.toNat))))), (9, .inr (.inl (yi_lor z9 (wl W pe ev two e c.toNat y11.toNat)))), (14, .inr (.inl (wl W pe ev two e c.toNat y11.toNat))), (12, .inr (.inl (wl W pe ev who e c.toNat y11.toNat))), (11, .inl y11), (6, .inl 0), (5, .inl (two : Int)), (4, .inl (e : Int)), (3, .inl (who : Int)), (0, .inr (.inr (some 34))), (1, .inl x), (2, .inl c)], [], (I, L, R, Y), 0, 0) (fun _ => rfl) ?_
        refine yi_D_iinc [(11, .inl (y11 + 1)), (7, .inr (.inl (yi_lor z7 (yi_land (wl W pe ev who e c.toNat y11.toNat) (wl W pe ev two e c.toNat y11.toNat))))), (9, .inr (.inl (yi_lor z9 (wl W pe ev two e c.toNat y11.toNat)))), (14, .inr (.inl (wl W pe ev two e c.toNat y11.toNat))), (12, .inr (.inl (wl W pe ev who e c.toNat y11.toNat))), (6, .inl 0), (5, .inl (two : Int)), (4, .inl (e : Int)), (3, .inl (who : Int)), (0, .inr (.inr (some 34))), (1, .inl x), (2, .inl c)] rfl rfl rfl (by rw [show yi_w (y11 + 1) = y11 + 1 from (yi_wn (by omega) (by omega)).trans (by omega)]; rfl) ?_
        refine yi_D_run 1 (50, [(11, .inl (y11 + 1)), (7, .inr (.inl (yi_lor z7 (yi_land (wl W pe ev who e c.toNat y11.toNat) (wl W pe ev two e c.toNat y11.toNat))))), (9, .inr (.inl (yi_lor z9 (wl W pe ev two e c.toNat y11.toNat)))), (14, .inr (.inl (wl W pe ev two e c.toNat y11.toNat))), (12, .inr (.inl (wl W pe ev who e c.toNat y11.toNat))), (6, .inl 0), (5, .inl (two : Int)), (4, .inl (e : Int)), (3, .inl (who : Int)), (0, .inr (.inr (some 34))), (1, .inl x), (2, .inl c)], [], (I, L, R, Y), 0, 0) (fun _ => rfl) ?_
        refine yi_D_al (al := [(11, .inl (y11 + 1)), (9, .inr (.inl (yi_lor z9 (wl W pe ev two e c.toNat y11.toNat)))), (7, .inr (.inl (yi_lor z7 (yi_land (wl W pe ev who e c.toNat y11.toNat) (wl W pe ev two e c.toNat y11.toNat))))), (6, .inl 0), (5, .inl (two : Int)), (4, .inl (e : Int)), (3, .inl (who : Int)), (0, .inr (.inr (some 34))), (1, .inl x), (2, .inl c), (12, .inr (.inl (wl W pe ev who e c.toNat y11.toNat))), (14, .inr (.inl (wl W pe ev two e c.toNat y11.toNat)))]) (show ([11, 9, 7, 6, 5, 4, 3, 0, 1, 2, 12, 14] : List Nat).Nodup by decide) (show ([11, 7, 9, 14, 12, 6, 5, 4, 3, 0, 1, 2] : List Nat).Nodup by decide) (yi_mc (List.mem_of_getElem? (i := 0) rfl) (yi_mc (List.mem_of_getElem? (i := 2) rfl) (yi_mc (List.mem_of_getElem? (i := 1) rfl) (yi_mc (List.mem_of_getElem? (i := 11) rfl) (yi_mc (List.mem_of_getElem? (i := 10) rfl) (yi_mc (List.mem_of_getElem? (i := 3) rfl) (yi_mc (List.mem_of_getElem? (i := 4) rfl) (yi_mc (List.mem_of_getElem? (i := 5) rfl) (yi_mc (List.mem_of_getElem? (i := 6) rfl) (yi_mc (List.mem_of_getElem? (i := 7) rfl) (yi_mc (List.mem_of_getElem? (i := 8) rfl) (yi_mc (List.mem_of_getElem? (i := 9) rfl) yi_mn)))))))))))) ?_
        exact yi_D_mono (ih50 (by omega) (y11 + 1) (yi_lor z9 (wl W pe ev two e c.toNat y11.toNat)) (yi_lor z7 (yi_land (wl W pe ev who e c.toNat y11.toNat) (wl W pe ev two e c.toNat y11.toNat))) (wl W pe ev who e c.toNat y11.toNat) (wl W pe ev two e c.toNat y11.toNat) (by omega) (by rw [show (y11 + 1 - 1).toNat = (y11 - 1).toNat + 1 by omega, hq9]; show _ = yi_lor (durL (wl W pe ev two e c.toNat) 1 (y11 - 1).toNat) (wl W pe ev two e c.toNat (1 + (y11 - 1).toNat)); rw [show 1 + (y11 - 1).toNat = y11.toNat by omega]) (by rw [show (y11 + 1 - 1).toNat = (y11 - 1).toNat + 1 by omega, hq7]; show _ = yi_lor (prTL (wl W pe ev who e c.toNat) (wl W pe ev two e c.toNat) (y11 - 1).toNat) (yi_land (wl W pe ev who e c.toNat ((y11 - 1).toNat + 1)) (wl W pe ev two e c.toNat ((y11 - 1).toNat + 1))); rw [show (y11 - 1).toNat + 1 = y11.toNat by omega])) (by omega)
    refine yi_D_al (al := [(11, .inl 1), (9, .inr (.inl 0)), (7, .inr (.inl 0)), (6, .inl 0), (5, .inl (two : Int)), (4, .inl (e : Int)), (3, .inl (who : Int)), (0, .inr (.inr (some 34))), (1, .inl x), (2, .inl c), (12, .inr (.inl 0)), (14, .inr (.inl 0))]) (show ([11, 9, 7, 6, 5, 4, 3, 0, 1, 2, 12, 14] : List Nat).Nodup by decide) (show ([11, 9, 7, 6, 5, 4, 3, 0, 1, 2] : List Nat).Nodup by decide) (yi_mc (List.mem_of_getElem? (i := 0) rfl) (yi_mc (List.mem_of_getElem? (i := 1) rfl) (yi_mc (List.mem_of_getElem? (i := 2) rfl) (yi_mc (List.mem_of_getElem? (i := 3) rfl) (yi_mc (List.mem_of_getElem? (i := 4) rfl) (yi_mc (List.mem_of_getElem? (i := 5) rfl) (yi_mc (List.mem_of_getElem? (i := 6) rfl) (yi_mc (List.mem_of_getElem? (i := 7) rfl) (yi_mc (List.mem_of_getElem? (i := 8) rfl) (yi_mc (List.mem_of_getElem? (i := 9) rfl) yi_mn)))))))))) ?_
    exact pt50 k (Nat.le_refl _) 1 0 0 0 0 (by omega) (by rw [show ((1 : Int) - 1).toNat = 0 by omega]; rfl) (by rw [show ((1 : Int) - 1).toNat = 0 by omega]; rfl)
