/-! The check's rows, exactly; what is left. -/
section QRW
variable {I L : Nat → Nat → Int} {R : Nat → Nat → Option Nat} {Y : (Nat → Nat) × (Nat → Nat) × Nat} {d n a b : Nat} {x y : Int}
def q_fr (L L' : Nat → Nat → Int) (a n : Nat) : Prop := ∀ p i, ¬ (p = 97 ∧ 512 * a ≤ i ∧ i < 512 * a + n) → L' p i = L p i
theorem q_rw_i (f : Nat → Int) {k : Nat} (hk : k < n) : ym_rw L (a : Int) (n : Int) f 97 (512 * a + k) = f k := by
  rw [ym_rw_i _ _ _ _ (by omega)]
  exact congrArg f (by omega)
theorem q_rw_f (f : Nat → Int) : q_fr L (ym_rw L (a : Int) (n : Int) f) a n := fun p i h => if_neg (by omega)
theorem q_clears (hS : ym_S (R, Y)) (hx : x = (a : Int)) (ha : a ≤ 311) (hn : I 82 25 = (n : Int)) (hn2 : n ≤ 512) : yi_P zi_Ms d 11 [.inr (.inr (some 82)), .inl x] (I, L, R, Y) (fun r => ∃ L', r = (none, (I, L', R, Y), 0, 0) ∧ (∀ k, k < n → L' 97 (512 * a + k) = 0) ∧ q_fr L L' a n) := by
  subst hx
  refine (yi_EP (c_clears (X := (R, Y)) 1 (by omega) hS (by omega) (by omega) (by omega) (by omega))).imp (fun r e => ⟨_, e, ?_, ?_⟩)
  · rw [hn]; exact fun k hk => q_rw_i _ hk
  · rw [hn]; exact q_rw_f _
theorem q_copiesRow (hS : ym_S (R, Y)) (hx : x = (a : Int)) (hy : y = (b : Int)) (ha : a ≤ 311) (hb : b ≤ 311) (hn : I 82 25 = (n : Int)) (hn2 : n ≤ 512) : yi_P zi_Ms d 14 [.inr (.inr (some 82)), .inl x, .inl y] (I, L, R, Y) (fun r => ∃ L', r = (none, (I, L', R, Y), 0, 0) ∧ (∀ k, k < n → L' 97 (512 * b + k) = L 97 (512 * a + k)) ∧ q_fr L L' b n) := by
  subst hx hy
  refine (yi_EP (c_copiesRow (X := (R, Y)) 1 (by omega) hS (by omega) (by omega) (by omega) (by omega) (by omega) (by omega))).imp (fun r e => ⟨_, e, ?_, ?_⟩)
  · rw [hn]; exact fun k hk => (q_rw_i _ hk).trans (congrArg (L 97) (by omega))
  · rw [hn]; exact q_rw_f _
theorem q_meets (hS : ym_S (R, Y)) (hx : x = (a : Int)) (hy : y = (b : Int)) (ha : a ≤ 311) (hb : b ≤ 311) (hn : I 82 25 = (n : Int)) (hn2 : n ≤ 512) : yi_P zi_Ms d 84 [.inr (.inr (some 82)), .inl x, .inl y] (I, L, R, Y) (fun r => ∃ L', r = (none, (I, L', R, Y), 0, 0) ∧ (∀ k, k < n → L' 97 (512 * a + k) = yi_land (L 97 (512 * a + k)) (L 97 (512 * b + k))) ∧ q_fr L L' a n) := by
  subst hx hy
  refine (yi_EP (c_meets (X := (R, Y)) 1 (by omega) hS (by omega) (by omega) (by omega) (by omega) (by omega) (by omega))).imp (fun r e => ⟨_, e, ?_, ?_⟩)
  · rw [hn]; exact fun k hk => (q_rw_i _ hk).trans (congr (congrArg (fun u => yi_land (L 97 u)) (by omega)) (congrArg (L 97) (by omega)))
  · rw [hn]; exact q_rw_f _
theorem q_joins (hS : ym_S (R, Y)) (hx : x = (a : Int)) (hy : y = (b : Int)) (ha : a ≤ 311) (hb : b ≤ 311) (hn : I 82 25 = (n : Int)) (hn2 : n ≤ 512) : yi_P zi_Ms d 66 [.inr (.inr (some 82)), .inl x, .inl y] (I, L, R, Y) (fun r => ∃ L', r = (none, (I, L', R, Y), 0, 0) ∧ (∀ k, k < n → L' 97 (512 * a + k) = yi_lor (L 97 (512 * a + k)) (L 97 (512 * b + k))) ∧ q_fr L L' a n) := by
  subst hx hy
  refine (yi_EP (c_joins (X := (R, Y)) 1 (by omega) hS (by omega) (by omega) (by omega) (by omega) (by omega) (by omega))).imp (fun r e => ⟨_, e, ?_, ?_⟩)
  · rw [hn]; exact fun k hk => (q_rw_i _ hk).trans (congr (congrArg (fun u => yi_lor (L 97 u)) (by omega)) (congrArg (L 97) (by omega)))
  · rw [hn]; exact q_rw_f _
theorem ct_congr {f g : Nat → Int} : ∀ n : Nat, (∀ k, k < n → f k = g k) → ym_ct f n = ym_ct g n
  | 0, _ => rfl
  | n + 1, h => by
    show yi_w (ym_ct f n + ym_on (f n)) = yi_w (ym_ct g n + ym_on (g n))
    rw [ct_congr n (fun k hk => h k (by omega)), h n (by omega)]
theorem q_many (hS : ym_S (R, Y)) (hx : x = (a : Int)) (ha : a ≤ 311) (hn : I 82 25 = (n : Int)) (hn2 : n ≤ 512) {f : Nat → Int} (hf : ∀ k, k < n → L 97 (512 * a + k) = f k) : yi_P zi_Ms d 80 [.inr (.inr (some 82)), .inl x] (I, L, R, Y) (fun r => r = (some (.inl (ym_ct f n)), (I, L, R, Y), 0, 0)) := by
  subst hx
  refine (yi_EP (c_many (X := (R, Y)) 2 (by omega) hS (by omega) (by omega) (by omega) (by omega))).imp (fun r e => ?_)
  rw [e, hn, show ((n : Int)).toNat = n from rfl, ct_congr n (fun k hk => (congrArg (L 97) (show (512 * (a : Int) + (k : Int)).toNat = 512 * a + k by omega)).trans (hf k hk))]
theorem q_manyBoth (hS : ym_S (R, Y)) (hx : x = (a : Int)) (hy : y = (b : Int)) (ha : a ≤ 311) (hb : b ≤ 311) (hn : I 82 25 = (n : Int)) (hn2 : n ≤ 512) {f g : Nat → Int} (hf : ∀ k, k < n → L 97 (512 * a + k) = f k) (hg : ∀ k, k < n → L 97 (512 * b + k) = g k) : yi_P zi_Ms d 81 [.inr (.inr (some 82)), .inl x, .inl y] (I, L, R, Y) (fun r => r = (some (.inl (ym_ct (fun k => yi_land (f k) (g k)) n)), (I, L, R, Y), 0, 0)) := by
  subst hx hy
  refine (yi_EP (c_manyBoth (X := (R, Y)) 2 (by omega) hS (by omega) (by omega) (by omega) (by omega) (by omega) (by omega))).imp (fun r e => ?_)
  rw [e, hn, show ((n : Int)).toNat = n from rfl, ct_congr n (fun k hk => congr (congrArg yi_land ((congrArg (L 97) (show (512 * (a : Int) + (k : Int)).toNat = 512 * a + k by omega)).trans (hf k hk))) ((congrArg (L 97) (show (512 * (b : Int) + (k : Int)).toNat = 512 * b + k by omega)).trans (hg k hk)))]
theorem q_isAny (hS : ym_S (R, Y)) (hx : x = (a : Int)) (hy : y = (b : Int)) (ha : a ≤ 311) (hb : b ≤ 311) (hn : I 82 25 = (n : Int)) (hn2 : n ≤ 512) {f g : Nat → Int} (hf : ∀ k, k < n → L 97 (512 * a + k) = f k) (hg : ∀ k, k < n → L 97 (512 * b + k) = g k) : yi_P zi_Ms d 47 [.inr (.inr (some 82)), .inl x, .inl y] (I, L, R, Y) (fun r => (rw_any f g n ∧ r = (some (.inl 1), (I, L, R, Y), 0, 0)) ∨ (¬ rw_any f g n ∧ r = (some (.inl 0), (I, L, R, Y), 0, 0))) := by
  subst hx hy
  have key : (∃ j : Int, 0 ≤ j ∧ j < I 82 25 ∧ ¬ yi_land (L 97 (512 * (a : Int) + j).toNat) (L 97 (512 * (b : Int) + j).toNat) = 0) ↔ rw_any f g n := by
    rw [hn]
    constructor
    · rintro ⟨j, h0, h1, h2⟩
      refine ⟨j.toNat, by omega, ?_⟩
      rw [← hf j.toNat (by omega), ← hg j.toNat (by omega), show 512 * a + j.toNat = (512 * (a : Int) + j).toNat by omega, show 512 * b + j.toNat = (512 * (b : Int) + j).toNat by omega]
      exact h2
    · rintro ⟨k, h1, h2⟩
      refine ⟨(k : Int), by omega, by omega, ?_⟩
      rw [show (512 * (a : Int) + (k : Int)).toNat = 512 * a + k by omega, show (512 * (b : Int) + (k : Int)).toNat = 512 * b + k by omega, hf k h1, hg k h1]
      exact h2
  refine (yi_EP (c_isAny (X := (R, Y)) 1 (by omega) hS (by omega) (by omega) (by omega) (by omega) (by omega) (by omega))).imp (fun r e => ?_)
  rwa [key] at e
theorem q_isAll (hS : ym_S (R, Y)) (hx : x = (a : Int)) (hy : y = (b : Int)) (ha : a ≤ 311) (hb : b ≤ 311) (hn : I 82 25 = (n : Int)) (hn2 : n ≤ 512) {f g : Nat → Int} (hf : ∀ k, k < n → L 97 (512 * a + k) = f k) (hg : ∀ k, k < n → L 97 (512 * b + k) = g k) : yi_P zi_Ms d 46 [.inr (.inr (some 82)), .inl x, .inl y] (I, L, R, Y) (fun r => (rw_all f g n ∧ r = (some (.inl 1), (I, L, R, Y), 0, 0)) ∨ (¬ rw_all f g n ∧ r = (some (.inl 0), (I, L, R, Y), 0, 0))) := by
  subst hx hy
  have key : (∀ j : Int, 0 ≤ j → j < I 82 25 → yi_land (L 97 (512 * (a : Int) + j).toNat) (yi_lxor (L 97 (512 * (b : Int) + j).toNat) (-1)) = 0) ↔ rw_all f g n := by
    rw [hn]
    constructor
    · intro h k hk
      have := h (k : Int) (by omega) (by omega)
      rw [show (512 * (a : Int) + (k : Int)).toNat = 512 * a + k by omega, show (512 * (b : Int) + (k : Int)).toNat = 512 * b + k by omega, hf k hk, hg k hk] at this
      exact this
    · intro h j h0 h1
      have := h j.toNat (by omega)
      rw [← hf j.toNat (by omega), ← hg j.toNat (by omega), show 512 * a + j.toNat = (512 * (a : Int) + j).toNat by omega, show 512 * b + j.toNat = (512 * (b : Int) + j).toNat by omega] at this
      exact this
  refine (yi_EP (c_isAll (X := (R, Y)) 1 (by omega) hS (by omega) (by omega) (by omega) (by omega) (by omega) (by omega))).imp (fun r e => ?_)
  rwa [key] at e
end QRW
/-- so many sayings, of these alone that are in a set -/
def lfb (g : Nat → Int) (rows : Nat → Nat → Int) (st : Int) : Nat → Nat → Int
  | 0 => g
  | i + 1 => fun c => if yi_iand (yi_shr st (i : Int)) 1 = 1 then yi_land (lfb g rows st i c) (rows i c) else lfb g rows st i c
def es (t : Nat) : Int := ((2 ^ t - 1 : Nat) : Int)
theorem es_v : ∀ t : Nat, t < 13 → yi_shl 1 (t : Int) = es t + 1 ∧ 0 ≤ es t ∧ es t ≤ 4095 := by decide +kernel
theorem es_b : ∀ t : Nat, t < 13 → ∀ i : Nat, i < t → yi_iand (yi_shr (es t) (i : Int)) 1 = 1 := by decide +kernel
theorem lfb_es {g : Nat → Int} {rows : Nat → Nat → Int} {t : Nat} (ht : t ≤ 12) : ∀ i : Nat, i ≤ t → lfb g rows (es t) i = lf g rows i
  | 0, _ => rfl
  | i + 1, h => by
    funext c
    show (if yi_iand (yi_shr (es t) (i : Int)) 1 = 1 then yi_land (lfb g rows (es t) i c) (rows i c) else lfb g rows (es t) i c) = yi_land (lf g rows i c) (rows i c)
    rw [if_pos (es_b t (by omega) i (by omega)), lfb_es ht i (by omega)]
theorem wx_lt {ev P k e : Nat} (hk : k < P) (he : e < ev) : ev * k + e < ev * P := by
  have h1 : ev * (k + 1) ≤ ev * P := Nat.mul_le_mul_left ev hk
  rw [Nat.mul_succ] at h1
  omega
theorem q_days {d : Nat} {I L : Nat → Nat → Int} {R : Nat → Nat → Option Nat} {Y : (Nat → Nat) × (Nat → Nat) × Nat} (hS : ym_S (R, Y)) {v : Int} (h : I 88 0 = v) : yi_P zi_Ms d 17 [.inr (.inr (some 82))] (I, L, R, Y) (fun r => r = (some (.inl v), (I, L, R, Y), 0, 0)) := by
  refine yi_P_of (M := zi_m17) rfl (fun d k => ?_)
  show yi_D zi_Ms d zi_m17 k (0, [(0, .inr (.inr (some 82)))], [], (I, L, R, Y), 0, 0) _
  refine yi_D_run 1 (1, [(0, .inr (.inr (some 82)))], [.inr (.inr (some 82))], (I, L, R, Y), 0, 0) (fun _ => rfl) ?_
  refine yi_D_gr (v := some 88) rfl rfl rfl (ym_S_at hS (j := 5) rfl).1 (fun _ => ?_)
  refine yi_D_run 1 (5, [(0, .inr (.inr (some 82)))], [.inl 0, .inr (.inr (some 88))], (I, L, R, Y), 0, 0) (fun _ => rfl) ?_
  refine yi_D_il (v := v) rfl rfl h (fun _ _ => ?_)
  refine yi_D_reti rfl ?_
  rfl
theorem q_events {d : Nat} {I L : Nat → Nat → Int} {R : Nat → Nat → Option Nat} {Y : (Nat → Nat) × (Nat → Nat) × Nat} (hS : ym_S (R, Y)) {v : Int} (h : I 88 2 = v) : yi_P zi_Ms d 22 [.inr (.inr (some 82))] (I, L, R, Y) (fun r => r = (some (.inl v), (I, L, R, Y), 0, 0)) := by
  refine yi_P_of (M := zi_m22) rfl (fun d k => ?_)
  show yi_D zi_Ms d zi_m22 k (0, [(0, .inr (.inr (some 82)))], [], (I, L, R, Y), 0, 0) _
  refine yi_D_run 1 (1, [(0, .inr (.inr (some 82)))], [.inr (.inr (some 82))], (I, L, R, Y), 0, 0) (fun _ => rfl) ?_
  refine yi_D_gr (v := some 88) rfl rfl rfl (ym_S_at hS (j := 5) rfl).1 (fun _ => ?_)
  refine yi_D_run 1 (5, [(0, .inr (.inr (some 82)))], [.inl 2, .inr (.inr (some 88))], (I, L, R, Y), 0, 0) (fun _ => rfl) ?_
  refine yi_D_il (v := v) rfl rfl h (fun _ _ => ?_)
  refine yi_D_reti rfl ?_
  rfl
theorem q_isIn {d : Nat} {I L : Nat → Nat → Int} {R : Nat → Nat → Option Nat} {Y : (Nat → Nat) × (Nat → Nat) × Nat} {x y : Int} : yi_P zi_Ms d 53 [.inl x, .inl y] (I, L, R, Y) (fun r => ((yi_iand (yi_shr x y) 1 = 1) ∧ r = (some (.inl 1), (I, L, R, Y), 0, 0)) ∨ (¬ (yi_iand (yi_shr x y) 1 = 1) ∧ r = (some (.inl 0), (I, L, R, Y), 0, 0))) := by
  refine yi_P_of (M := zi_m53) rfl (fun d k => ?_)
  show yi_D zi_Ms d zi_m53 k (0, [(0, .inl x), (1, .inl y)], [], (I, L, R, Y), 0, 0) _
  refine yi_D_run 6 (6, [(0, .inl x), (1, .inl y)], [.inl 1, .inl (yi_iand (yi_shr x y) 1)], (I, L, R, Y), 0, 0) (fun _ => rfl) ?_
  by_cases h1 : (yi_iand (yi_shr x y) 1) = 1
  · refine yi_D_if2 false rfl (yi_ne_f h1) ?_
    refine yi_D_run 2 (14, [(0, .inl x), (1, .inl y)], [.inl 1], (I, L, R, Y), 0, 0) (fun _ => rfl) ?_
    refine yi_D_reti rfl ?_
    exact Or.inl ⟨by omega, rfl⟩
  · refine yi_D_if2 true rfl (yi_ne_t h1) ?_
    refine yi_D_run 1 (14, [(0, .inl x), (1, .inl y)], [.inl 0], (I, L, R, Y), 0, 0) (fun _ => rfl) ?_
    refine yi_D_reti rfl ?_
    exact Or.inr ⟨by omega, rfl⟩
theorem q_lays {d : Nat} {I L : Nat → Nat → Int} {R : Nat → Nat → Option Nat} {Y : (Nat → Nat) × (Nat → Nat) × Nat} (hS : ym_S (R, Y)) {n da pe ev P t : Nat} {A cm : Nat → Int} {W rows : Nat → Nat → Int} (h25 : I 82 25 = (n : Int)) (hn5 : n ≤ 512) (hda : I 88 0 = (da : Int)) (hpe : I 88 1 = (pe : Int)) (hev : I 88 2 = (ev : Int)) (hP : P = da * pe) (bld : da ≤ 6 ∧ pe ≤ 4 ∧ ev ≤ 4) (b32 : ev * P ≤ 32) (hcm : ∀ k, k < P → I 100 (44 + k) = cm k) (hcb : ∀ k, k < P → cm k = -1 ∨ (0 ≤ cm k ∧ cm k < ev)) (ht : I 100 0 = (t : Int)) (ht2 : t ≤ 12) (hLA : ∀ k, k < n → L 97 (512 * 32 + k) = A k) (hLW : ∀ i k, i < ev * P → k < n → L 97 (512 * i + k) = W i k) (hLr : ∀ i k, i < t → k < n → L 97 (512 * (60 + i) + k) = rows i k) {a : Nat} {x st cf : Int} {g : Nat → Int} (hx : x = (a : Int)) (ha : 39 ≤ a ∧ a ≤ 59) (hg : (cf = 1 ∧ g = gd A W ev cm P) ∨ (cf = 0 ∧ g = A)) : yi_P zi_Ms d 74 [.inr (.inr (some 82)), .inl x, .inl st, .inl cf] (I, L, R, Y) (fun r => ∃ L', r = (none, (I, L', R, Y), 0, 0) ∧ (∀ k, k < n → L' 97 (512 * a + k) = lfb g rows st t k) ∧ q_fr L L' a n) := by
  refine yi_P_of (M := zi_m74) rfl (fun d k => ?_)
  have hPi : (da : Int) * (pe : Int) = (P : Int) := by rw [hP, Int.natCast_mul]
  have hP24 : P ≤ 24 := by rw [hP]; exact Nat.mul_le_mul (show da ≤ 6 by omega) (show pe ≤ 4 by omega)
  show yi_D zi_Ms d zi_m74 k (0, [(0, .inr (.inr (some 82))), (1, .inl x), (2, .inl st), (3, .inl cf)], [], (I, L, R, Y), 0, 0) _
  refine yi_D_run 3 (4, [(0, .inr (.inr (some 82))), (1, .inl x), (2, .inl st), (3, .inl cf)], [.inl x, .inl 32, .inr (.inr (some 82))], (I, L, R, Y), 0, 0) (fun _ => rfl) ?_
  refine yi_D_callv rfl (q_copiesRow (a := 32) (b := a) hS rfl hx (by omega) (by omega) h25 hn5) ?_
  rintro _ ⟨L1, rfl, h12, h23⟩
  show yi_D zi_Ms d zi_m74 k (7, [(0, .inr (.inr (some 82))), (1, .inl x), (2, .inl st), (3, .inl cf)], [], (I, L1, R, Y), 0, 0) _
  refine yi_D_run 2 (10, [(4, .inl 0), (0, .inr (.inr (some 82))), (1, .inl x), (2, .inl st), (3, .inl cf)], [], (I, L1, R, Y), 0, 0) (fun _ => rfl) ?_
  have pt10 : ∀ j10, j10 ≤ k → ∀ (y4 : Int) (G1 : Nat → Nat → Int), (0 ≤ y4 ∧ y4 ≤ (P : Int)) → (cf = 0 → y4 = 0) → (∀ k, k < n → G1 97 (512 * a + k) = gd A W ev cm y4.toNat k) → (q_fr L G1 a n) → yi_D zi_Ms d zi_m74 j10 (10, [(4, .inl y4), (0, .inr (.inr (some 82))), (1, .inl x), (2, .inl st), (3, .inl cf)], [], (I, G1, R, Y), 0, 0) (fun r => ∃ L', r = (none, (I, L', R, Y), 0, 0) ∧ (∀ k, k < n → L' 97 (512 * a + k) = lfb g rows st t k) ∧ q_fr L L' a n) := by
    intro j10
    induction j10 with
    | zero => intros; exact yi_D_0
    | succ j10 ih10 =>
    intro hk10 y4 G1 hy4 hc0 hg1 hf1
    refine yi_D_run1 1 (13, [(4, .inl y4), (0, .inr (.inr (some 82))), (1, .inl x), (2, .inl st), (3, .inl cf)], [.inr (.inr (some 82)), .inl y4], (I, G1, R, Y), 0, 0) (fun _ => rfl) ?_
    refine yi_D_callv rfl (q_days hS hda) ?_
    rintro _ rfl
    show yi_D zi_Ms d zi_m74 j10 (16, [(4, .inl y4), (0, .inr (.inr (some 82))), (1, .inl x), (2, .inl st), (3, .inl cf)], [.inl (da : Int), .inl y4], (I, G1, R, Y), 0, 0) _
    refine yi_D_run 1 (17, [(4, .inl y4), (0, .inr (.inr (some 82))), (1, .inl x), (2, .inl st), (3, .inl cf)], [.inr (.inr (some 82)), .inl (da : Int), .inl y4], (I, G1, R, Y), 0, 0) (fun _ => rfl) ?_
    refine yi_D_callv rfl (q_people hS hpe) ?_
    rintro _ rfl
    show yi_D zi_Ms d zi_m74 j10 (20, [(4, .inl y4), (0, .inr (.inr (some 82))), (1, .inl x), (2, .inl st), (3, .inl cf)], [.inl (pe : Int), .inl (da : Int), .inl y4], (I, G1, R, Y), 0, 0) _
    refine yi_D_imul rfl ((P : Int)) (by rw [hPi]; exact yi_wn (by omega) (by omega)) ?_
    by_cases h4 : (P : Int) ≤ y4
    · refine yi_D_if2 true rfl (yi_ge_t h4) ?_
      refine yi_D_run 2 (73, [(4, .inl 0), (0, .inr (.inr (some 82))), (1, .inl x), (2, .inl st), (3, .inl cf)], [], (I, G1, R, Y), 0, 0) (fun _ => rfl) ?_
      have pt73 : ∀ j73, j73 ≤ j10 → ∀ (y5 : Int) (G2 : Nat → Nat → Int), (0 ≤ y5 ∧ y5 ≤ (t : Int)) → (∀ k, k < n → G2 97 (512 * a + k) = lfb g rows st y5.toNat k) → (q_fr L G2 a n) → yi_D zi_Ms d zi_m74 j73 (73, [(4, .inl y5), (0, .inr (.inr (some 82))), (1, .inl x), (2, .inl st), (3, .inl cf)], [], (I, G2, R, Y), 0, 0) (fun r => ∃ L', r = (none, (I, L', R, Y), 0, 0) ∧ (∀ k, k < n → L' 97 (512 * a + k) = lfb g rows st t k) ∧ q_fr L L' a n) := by
        intro j73
        induction j73 with
        | zero => intros; exact yi_D_0
        | succ j73 ih73 =>
        intro hk73 y5 G2 hy5 hg2 hf2
        refine yi_D_run1 1 (76, [(4, .inl y5), (0, .inr (.inr (some 82))), (1, .inl x), (2, .inl st), (3, .inl cf)], [.inr (.inr (some 82)), .inl y5], (I, G2, R, Y), 0, 0) (fun _ => rfl) ?_
        refine yi_D_gr (v := some 100) rfl rfl rfl (ym_S_at hS (j := 17) rfl).1 (fun _ => ?_)
        refine yi_D_run 1 (80, [(4, .inl y5), (0, .inr (.inr (some 82))), (1, .inl x), (2, .inl st), (3, .inl cf)], [.inl 0, .inr (.inr (some 100)), .inl y5], (I, G2, R, Y), 0, 0) (fun _ => rfl) ?_
        refine yi_D_il (v := (t : Int)) rfl rfl ht (fun _ _ => ?_)
        by_cases h5 : (t : Int) ≤ y5
        · refine yi_D_if2 true rfl (yi_ge_t h5) ?_
          refine yi_D_retv rfl ?_
          have hn2 : y5.toNat = t := by omega
          exact ⟨_, rfl, fun k hk => by rw [← hn2]; exact hg2 k hk, hf2⟩
        · refine yi_D_if2 false rfl (yi_ge_f h5) ?_
          refine yi_D_run 2 (87, [(4, .inl y5), (0, .inr (.inr (some 82))), (1, .inl x), (2, .inl st), (3, .inl cf)], [.inl y5, .inl st], (I, G2, R, Y), 0, 0) (fun _ => rfl) ?_
          refine yi_D_calls rfl (q_isIn) ?_
          rintro _ (⟨hb6, rfl⟩ | ⟨hb7, rfl⟩)
          · show yi_D zi_Ms d zi_m74 j73 (90, [(4, .inl y5), (0, .inr (.inr (some 82))), (1, .inl x), (2, .inl st), (3, .inl cf)], [.inl 1], (I, G2, R, Y), 0, 0) _
            refine yi_D_if1 false rfl (by decide) ?_
            refine yi_D_run 4 (99, [(4, .inl y5), (0, .inr (.inr (some 82))), (1, .inl x), (2, .inl st), (3, .inl cf)], [.inl y5, .inl 60, .inl x, .inr (.inr (some 82))], (I, G2, R, Y), 0, 0) (fun _ => rfl) ?_
            refine yi_D_iadd rfl (60 + y5) (yi_wn (by omega) (by omega)) ?_
            refine yi_D_callv rfl (q_meets (a := a) (b := 60 + y5.toNat) hS hx (by omega) (by omega) (by omega) h25 hn5) ?_
            rintro _ ⟨L8, rfl, k19, k210⟩
            have hkp : ∀ k, k < n → L8 97 (512 * a + k) = lfb g rows st (y5.toNat + 1) k := fun k hk => by rw [k19 k hk, hg2 k hk, hf2 97 _ (by omega), hLr _ k (by omega) hk]; exact (if_pos (by rw [show ((y5.toNat : Nat) : Int) = y5 by omega]; assumption)).symm
            have hkf : q_fr L L8 a n := fun p i h => by rw [k210 p i h]; exact hf2 p i h
            show yi_D zi_Ms d zi_m74 j73 (103, [(4, .inl y5), (0, .inr (.inr (some 82))), (1, .inl x), (2, .inl st), (3, .inl cf)], [], (I, L8, R, Y), 0, 0) _
            refine yi_D_iinc [(4, .inl (y5 + 1)), (0, .inr (.inr (some 82))), (1, .inl x), (2, .inl st), (3, .inl cf)] rfl rfl rfl (by rw [show yi_w (y5 + 1) = y5 + 1 from (yi_wn (by omega) (by omega)).trans (by omega)]; rfl) ?_
            refine yi_D_run 1 (73, [(4, .inl (y5 + 1)), (0, .inr (.inr (some 82))), (1, .inl x), (2, .inl st), (3, .inl cf)], [], (I, L8, R, Y), 0, 0) (fun _ => rfl) ?_
            exact yi_D_mono (ih73 (by omega) (y5 + 1) L8 (by omega) (fun k hk => by rw [show (y5 + 1).toNat = y5.toNat + 1 by omega]; exact hkp k hk) hkf) (by omega)
          · show yi_D zi_Ms d zi_m74 j73 (90, [(4, .inl y5), (0, .inr (.inr (some 82))), (1, .inl x), (2, .inl st), (3, .inl cf)], [.inl 0], (I, G2, R, Y), 0, 0) _
            refine yi_D_if1 true rfl (by decide) ?_
            refine yi_D_iinc [(4, .inl (y5 + 1)), (0, .inr (.inr (some 82))), (1, .inl x), (2, .inl st), (3, .inl cf)] rfl rfl rfl (by rw [show yi_w (y5 + 1) = y5 + 1 from (yi_wn (by omega) (by omega)).trans (by omega)]; rfl) ?_
            refine yi_D_run 1 (73, [(4, .inl (y5 + 1)), (0, .inr (.inr (some 82))), (1, .inl x), (2, .inl st), (3, .inl cf)], [], (I, G2, R, Y), 0, 0) (fun _ => rfl) ?_
            exact yi_D_mono (ih73 (by omega) (y5 + 1) G2 (by omega) (fun k hk => by rw [show (y5 + 1).toNat = y5.toNat + 1 by omega]; exact (hg2 k hk).trans (if_neg (by rw [show ((y5.toNat : Nat) : Int) = y5 by omega]; assumption)).symm) hf2) (by omega)
      exact pt73 j10 (Nat.le_refl _) 0 G1 (by omega) (fun k hk => by rcases hg with ⟨e1, e2⟩ | ⟨e1, e2⟩; rw [e2]; rw [show P = y4.toNat by omega]; exact hg1 k hk; have e3 := hc0 e1; have e4 := hg1 k hk; rw [e3] at e4; rw [e2]; exact e4) hf1
    · refine yi_D_if2 false rfl (yi_ge_f h4) ?_
      refine yi_D_run 1 (25, [(4, .inl y4), (0, .inr (.inr (some 82))), (1, .inl x), (2, .inl st), (3, .inl cf)], [.inl cf], (I, G1, R, Y), 0, 0) (fun _ => rfl) ?_
      by_cases h11 : cf = 0
      · refine yi_D_if1 true rfl (yi_eq_t h11) ?_
        refine yi_D_run 2 (73, [(4, .inl 0), (0, .inr (.inr (some 82))), (1, .inl x), (2, .inl st), (3, .inl cf)], [], (I, G1, R, Y), 0, 0) (fun _ => rfl) ?_
        have pt73 : ∀ j73, j73 ≤ j10 → ∀ (y5 : Int) (G2 : Nat → Nat → Int), (0 ≤ y5 ∧ y5 ≤ (t : Int)) → (∀ k, k < n → G2 97 (512 * a + k) = lfb g rows st y5.toNat k) → (q_fr L G2 a n) → yi_D zi_Ms d zi_m74 j73 (73, [(4, .inl y5), (0, .inr (.inr (some 82))), (1, .inl x), (2, .inl st), (3, .inl cf)], [], (I, G2, R, Y), 0, 0) (fun r => ∃ L', r = (none, (I, L', R, Y), 0, 0) ∧ (∀ k, k < n → L' 97 (512 * a + k) = lfb g rows st t k) ∧ q_fr L L' a n) := by
          intro j73
          induction j73 with
          | zero => intros; exact yi_D_0
          | succ j73 ih73 =>
          intro hk73 y5 G2 hy5 hg2 hf2
          refine yi_D_run1 1 (76, [(4, .inl y5), (0, .inr (.inr (some 82))), (1, .inl x), (2, .inl st), (3, .inl cf)], [.inr (.inr (some 82)), .inl y5], (I, G2, R, Y), 0, 0) (fun _ => rfl) ?_
          refine yi_D_gr (v := some 100) rfl rfl rfl (ym_S_at hS (j := 17) rfl).1 (fun _ => ?_)
          refine yi_D_run 1 (80, [(4, .inl y5), (0, .inr (.inr (some 82))), (1, .inl x), (2, .inl st), (3, .inl cf)], [.inl 0, .inr (.inr (some 100)), .inl y5], (I, G2, R, Y), 0, 0) (fun _ => rfl) ?_
          refine yi_D_il (v := (t : Int)) rfl rfl ht (fun _ _ => ?_)
          by_cases h12 : (t : Int) ≤ y5
          · refine yi_D_if2 true rfl (yi_ge_t h12) ?_
            refine yi_D_retv rfl ?_
            have hn2 : y5.toNat = t := by omega
            exact ⟨_, rfl, fun k hk => by rw [← hn2]; exact hg2 k hk, hf2⟩
          · refine yi_D_if2 false rfl (yi_ge_f h12) ?_
            refine yi_D_run 2 (87, [(4, .inl y5), (0, .inr (.inr (some 82))), (1, .inl x), (2, .inl st), (3, .inl cf)], [.inl y5, .inl st], (I, G2, R, Y), 0, 0) (fun _ => rfl) ?_
            refine yi_D_calls rfl (q_isIn) ?_
            rintro _ (⟨hb13, rfl⟩ | ⟨hb14, rfl⟩)
            · show yi_D zi_Ms d zi_m74 j73 (90, [(4, .inl y5), (0, .inr (.inr (some 82))), (1, .inl x), (2, .inl st), (3, .inl cf)], [.inl 1], (I, G2, R, Y), 0, 0) _
              refine yi_D_if1 false rfl (by decide) ?_
              refine yi_D_run 4 (99, [(4, .inl y5), (0, .inr (.inr (some 82))), (1, .inl x), (2, .inl st), (3, .inl cf)], [.inl y5, .inl 60, .inl x, .inr (.inr (some 82))], (I, G2, R, Y), 0, 0) (fun _ => rfl) ?_
              refine yi_D_iadd rfl (60 + y5) (yi_wn (by omega) (by omega)) ?_
              refine yi_D_callv rfl (q_meets (a := a) (b := 60 + y5.toNat) hS hx (by omega) (by omega) (by omega) h25 hn5) ?_
              rintro _ ⟨L15, rfl, k116, k217⟩
              have hkp : ∀ k, k < n → L15 97 (512 * a + k) = lfb g rows st (y5.toNat + 1) k := fun k hk => by rw [k116 k hk, hg2 k hk, hf2 97 _ (by omega), hLr _ k (by omega) hk]; exact (if_pos (by rw [show ((y5.toNat : Nat) : Int) = y5 by omega]; assumption)).symm
              have hkf : q_fr L L15 a n := fun p i h => by rw [k217 p i h]; exact hf2 p i h
              show yi_D zi_Ms d zi_m74 j73 (103, [(4, .inl y5), (0, .inr (.inr (some 82))), (1, .inl x), (2, .inl st), (3, .inl cf)], [], (I, L15, R, Y), 0, 0) _
              refine yi_D_iinc [(4, .inl (y5 + 1)), (0, .inr (.inr (some 82))), (1, .inl x), (2, .inl st), (3, .inl cf)] rfl rfl rfl (by rw [show yi_w (y5 + 1) = y5 + 1 from (yi_wn (by omega) (by omega)).trans (by omega)]; rfl) ?_
              refine yi_D_run 1 (73, [(4, .inl (y5 + 1)), (0, .inr (.inr (some 82))), (1, .inl x), (2, .inl st), (3, .inl cf)], [], (I, L15, R, Y), 0, 0) (fun _ => rfl) ?_
              exact yi_D_mono (ih73 (by omega) (y5 + 1) L15 (by omega) (fun k hk => by rw [show (y5 + 1).toNat = y5.toNat + 1 by omega]; exact hkp k hk) hkf) (by omega)
            · show yi_D zi_Ms d zi_m74 j73 (90, [(4, .inl y5), (0, .inr (.inr (some 82))), (1, .inl x), (2, .inl st), (3, .inl cf)], [.inl 0], (I, G2, R, Y), 0, 0) _
              refine yi_D_if1 true rfl (by decide) ?_
              refine yi_D_iinc [(4, .inl (y5 + 1)), (0, .inr (.inr (some 82))), (1, .inl x), (2, .inl st), (3, .inl cf)] rfl rfl rfl (by rw [show yi_w (y5 + 1) = y5 + 1 from (yi_wn (by omega) (by omega)).trans (by omega)]; rfl) ?_
              refine yi_D_run 1 (73, [(4, .inl (y5 + 1)), (0, .inr (.inr (some 82))), (1, .inl x), (2, .inl st), (3, .inl cf)], [], (I, G2, R, Y), 0, 0) (fun _ => rfl) ?_
              exact yi_D_mono (ih73 (by omega) (y5 + 1) G2 (by omega) (fun k hk => by rw [show (y5 + 1).toNat = y5.toNat + 1 by omega]; exact (hg2 k hk).trans (if_neg (by rw [show ((y5.toNat : Nat) : Int) = y5 by omega]; assumption)).symm) hf2) (by omega)
        exact pt73 j10 (Nat.le_refl _) 0 G1 (by omega) (fun k hk => by rcases hg with ⟨e1, e2⟩ | ⟨e1, e2⟩; rw [e2]; rw [show P = y4.toNat by omega]; exact hg1 k hk; have e3 := hc0 e1; have e4 := hg1 k hk; rw [e3] at e4; rw [e2]; exact e4) hf1
      · refine yi_D_if1 false rfl (yi_eq_f h11) ?_
        refine yi_D_run 1 (29, [(4, .inl y4), (0, .inr (.inr (some 82))), (1, .inl x), (2, .inl st), (3, .inl cf)], [.inr (.inr (some 82))], (I, G1, R, Y), 0, 0) (fun _ => rfl) ?_
        refine yi_D_gr (v := some 100) rfl rfl rfl (ym_S_at hS (j := 17) rfl).1 (fun _ => ?_)
        refine yi_D_run 2 (36, [(4, .inl y4), (0, .inr (.inr (some 82))), (1, .inl x), (2, .inl st), (3, .inl cf)], [.inl y4, .inl 44, .inr (.inr (some 100))], (I, G1, R, Y), 0, 0) (fun _ => rfl) ?_
        refine yi_D_iadd rfl (44 + y4) (yi_wn (by omega) (by omega)) ?_
        have hc4 : I 100 (44 + y4).toNat = cm y4.toNat := by rw [show (44 + y4).toNat = 44 + y4.toNat by omega]; exact hcm _ (by omega)
        have hcv := hcb y4.toNat (by omega)
        refine yi_D_il (v := cm y4.toNat) rfl rfl hc4 (fun _ _ => ?_)
        by_cases h18 : (cm y4.toNat) < 0
        · refine yi_D_if1 true rfl (yi_lt_t h18) ?_
          refine yi_D_iinc [(4, .inl (y4 + 1)), (0, .inr (.inr (some 82))), (1, .inl x), (2, .inl st), (3, .inl cf)] rfl rfl rfl (by rw [show yi_w (y4 + 1) = y4 + 1 from (yi_wn (by omega) (by omega)).trans (by omega)]; rfl) ?_
          refine yi_D_run 1 (10, [(4, .inl (y4 + 1)), (0, .inr (.inr (some 82))), (1, .inl x), (2, .inl st), (3, .inl cf)], [], (I, G1, R, Y), 0, 0) (fun _ => rfl) ?_
          exact yi_D_mono (ih10 (by omega) (y4 + 1) G1 (by omega) (fun h => by omega) (fun k hk => by rw [show (y4 + 1).toNat = y4.toNat + 1 by omega]; exact (hg1 k hk).trans (if_neg (by omega)).symm) hf1) (by omega)
        · refine yi_D_if1 false rfl (yi_lt_f h18) ?_
          have hwx := wx_lt (ev := ev) (P := P) (k := y4.toNat) (e := (cm y4.toNat).toNat) (by omega) (by omega)
          refine yi_D_run 3 (44, [(4, .inl y4), (0, .inr (.inr (some 82))), (1, .inl x), (2, .inl st), (3, .inl cf)], [.inr (.inr (some 82)), .inl x, .inr (.inr (some 82))], (I, G1, R, Y), 0, 0) (fun _ => rfl) ?_
          refine yi_D_callv rfl (q_events hS hev) ?_
          rintro _ rfl
          show yi_D zi_Ms d zi_m74 j10 (47, [(4, .inl y4), (0, .inr (.inr (some 82))), (1, .inl x), (2, .inl st), (3, .inl cf)], [.inl (ev : Int), .inl x, .inr (.inr (some 82))], (I, G1, R, Y), 0, 0) _
          refine yi_D_run 1 (49, [(4, .inl y4), (0, .inr (.inr (some 82))), (1, .inl x), (2, .inl st), (3, .inl cf)], [.inl y4, .inl (ev : Int), .inl x, .inr (.inr (some 82))], (I, G1, R, Y), 0, 0) (fun _ => rfl) ?_
          refine yi_D_imul rfl (((ev * y4.toNat : Nat) : Int)) (by rw [show (ev : Int) * y4 = ((ev * y4.toNat : Nat) : Int) by rw [Int.natCast_mul, show ((y4.toNat : Nat) : Int) = y4 by omega]]; exact yi_wn (by omega) (by omega)) ?_
          refine yi_D_run 1 (51, [(4, .inl y4), (0, .inr (.inr (some 82))), (1, .inl x), (2, .inl st), (3, .inl cf)], [.inr (.inr (some 82)), .inl ((ev * y4.toNat : Nat) : Int), .inl x, .inr (.inr (some 82))], (I, G1, R, Y), 0, 0) (fun _ => rfl) ?_
          refine yi_D_gr (v := some 100) rfl rfl rfl (ym_S_at hS (j := 17) rfl).1 (fun _ => ?_)
          refine yi_D_run 2 (58, [(4, .inl y4), (0, .inr (.inr (some 82))), (1, .inl x), (2, .inl st), (3, .inl cf)], [.inl y4, .inl 44, .inr (.inr (some 100)), .inl ((ev * y4.toNat : Nat) : Int), .inl x, .inr (.inr (some 82))], (I, G1, R, Y), 0, 0) (fun _ => rfl) ?_
          refine yi_D_iadd rfl (44 + y4) (yi_wn (by omega) (by omega)) ?_
          refine yi_D_il (v := cm y4.toNat) rfl rfl hc4 (fun _ _ => ?_)
          refine yi_D_iadd rfl (((ev * y4.toNat : Nat) : Int) + (cm y4.toNat)) (yi_wn (by omega) (by omega)) ?_
          refine yi_D_callv rfl (q_meets (a := a) (b := ev * y4.toNat + (cm y4.toNat).toNat) hS hx (by omega) (by omega) (by omega) h25 hn5) ?_
          rintro _ ⟨L19, rfl, k120, k221⟩
          have hkp : ∀ k, k < n → L19 97 (512 * a + k) = gd A W ev cm (y4.toNat + 1) k := fun k hk => by rw [k120 k hk, hg1 k hk, hf1 97 _ (by omega), hLW _ k hwx hk]; exact (if_pos (by omega)).symm
          have hkf : q_fr L L19 a n := fun p i h => by rw [k221 p i h]; exact hf1 p i h
          show yi_D zi_Ms d zi_m74 j10 (64, [(4, .inl y4), (0, .inr (.inr (some 82))), (1, .inl x), (2, .inl st), (3, .inl cf)], [], (I, L19, R, Y), 0, 0) _
          refine yi_D_iinc [(4, .inl (y4 + 1)), (0, .inr (.inr (some 82))), (1, .inl x), (2, .inl st), (3, .inl cf)] rfl rfl rfl (by rw [show yi_w (y4 + 1) = y4 + 1 from (yi_wn (by omega) (by omega)).trans (by omega)]; rfl) ?_
          refine yi_D_run 1 (10, [(4, .inl (y4 + 1)), (0, .inr (.inr (some 82))), (1, .inl x), (2, .inl st), (3, .inl cf)], [], (I, L19, R, Y), 0, 0) (fun _ => rfl) ?_
          exact yi_D_mono (ih10 (by omega) (y4 + 1) L19 (by omega) (fun h => by omega) (fun k hk => by rw [show (y4 + 1).toNat = y4.toNat + 1 by omega]; exact hkp k hk) hkf) (by omega)
  exact pt10 k (Nat.le_refl _) 0 L1 (by omega) (fun _ => rfl) (fun k hk => by rw [h12 k hk]; exact hLA k hk) h23
theorem q_everySaying {d : Nat} {I L : Nat → Nat → Int} {R : Nat → Nat → Option Nat} {Y : (Nat → Nat) × (Nat → Nat) × Nat} (hS : ym_S (R, Y)) {t : Nat} (ht : I 100 0 = (t : Int)) (ht2 : t ≤ 12) : yi_P zi_Ms d 23 [.inr (.inr (some 82))] (I, L, R, Y) (fun r => r = (some (.inl (es t)), (I, L, R, Y), 0, 0)) := by
  refine yi_P_of (M := zi_m23) rfl (fun d k => ?_)
  have hev := es_v t (by omega)
  show yi_D zi_Ms d zi_m23 k (0, [(0, .inr (.inr (some 82)))], [], (I, L, R, Y), 0, 0) _
  refine yi_D_run 2 (2, [(0, .inr (.inr (some 82)))], [.inr (.inr (some 82)), .inl 1], (I, L, R, Y), 0, 0) (fun _ => rfl) ?_
  refine yi_D_gr (v := some 100) rfl rfl rfl (ym_S_at hS (j := 17) rfl).1 (fun _ => ?_)
  refine yi_D_run 1 (6, [(0, .inr (.inr (some 82)))], [.inl 0, .inr (.inr (some 100)), .inl 1], (I, L, R, Y), 0, 0) (fun _ => rfl) ?_
  refine yi_D_il (v := (t : Int)) rfl rfl ht (fun _ _ => ?_)
  refine yi_D_run 2 (9, [(0, .inr (.inr (some 82)))], [.inl 1, .inl (yi_shl 1 (t : Int))], (I, L, R, Y), 0, 0) (fun _ => rfl) ?_
  refine yi_D_isub rfl ((yi_shl 1 (t : Int)) - 1) (yi_wn (by omega) (by omega)) ?_
  refine yi_D_reti rfl ?_
  exact congrArg (fun z => (some (Sum.inl z), (I, L, R, Y), 0, 0)) (by omega)
theorem q_findLeft {d : Nat} {I L : Nat → Nat → Int} {R : Nat → Nat → Option Nat} {Y : (Nat → Nat) × (Nat → Nat) × Nat} (hS : ym_S (R, Y)) {n da pe ev P t : Nat} {A cm : Nat → Int} {W rows : Nat → Nat → Int} (h25 : I 82 25 = (n : Int)) (hn5 : n ≤ 512) (hda : I 88 0 = (da : Int)) (hpe : I 88 1 = (pe : Int)) (hev : I 88 2 = (ev : Int)) (hP : P = da * pe) (bld : da ≤ 6 ∧ pe ≤ 4 ∧ ev ≤ 4) (b32 : ev * P ≤ 32) (hcm : ∀ k, k < P → I 100 (44 + k) = cm k) (hcb : ∀ k, k < P → cm k = -1 ∨ (0 ≤ cm k ∧ cm k < ev)) (ht : I 100 0 = (t : Int)) (ht2 : t ≤ 12) (hLA : ∀ k, k < n → L 97 (512 * 32 + k) = A k) (hLW : ∀ i k, i < ev * P → k < n → L 97 (512 * i + k) = W i k) (hLr : ∀ i k, i < t → k < n → L 97 (512 * (60 + i) + k) = rows i k) : yi_P zi_Ms d 28 [.inr (.inr (some 82))] (I, L, R, Y) (fun r => ∃ L', r = (some (.inl (ym_ct (lf (gd A W ev cm P) rows t) n)), (I, L', R, Y), 0, 0) ∧ (∀ k, k < n → L' 97 (512 * 39 + k) = lf (gd A W ev cm P) rows t k) ∧ q_fr L L' 39 n) := by
  refine yi_P_of (M := zi_m28) rfl (fun d k => ?_)
  show yi_D zi_Ms d zi_m28 k (0, [(0, .inr (.inr (some 82)))], [], (I, L, R, Y), 0, 0) _
  refine yi_D_run 3 (4, [(0, .inr (.inr (some 82)))], [.inr (.inr (some 82)), .inl 39, .inr (.inr (some 82))], (I, L, R, Y), 0, 0) (fun _ => rfl) ?_
  refine yi_D_callv rfl (q_everySaying hS ht ht2) ?_
  rintro _ rfl
  show yi_D zi_Ms d zi_m28 k (7, [(0, .inr (.inr (some 82)))], [.inl (es t), .inl 39, .inr (.inr (some 82))], (I, L, R, Y), 0, 0) _
  refine yi_D_run 1 (8, [(0, .inr (.inr (some 82)))], [.inl 1, .inl (es t), .inl 39, .inr (.inr (some 82))], (I, L, R, Y), 0, 0) (fun _ => rfl) ?_
  refine yi_D_callv rfl (q_lays hS h25 hn5 hda hpe hev hP bld b32 hcm hcb ht ht2 hLA hLW hLr (a := 39) rfl (by omega) (Or.inl ⟨rfl, rfl⟩)) ?_
  rintro _ ⟨L1, rfl, h12, h23⟩
  rw [lfb_es ht2 t (Nat.le_refl t)] at h12
  show yi_D zi_Ms d zi_m28 k (11, [(0, .inr (.inr (some 82)))], [], (I, L1, R, Y), 0, 0) _
  refine yi_D_run 2 (14, [(0, .inr (.inr (some 82)))], [.inl 39, .inr (.inr (some 82))], (I, L1, R, Y), 0, 0) (fun _ => rfl) ?_
  refine yi_D_callv rfl (q_many (a := 39) hS rfl (by omega) h25 hn5 h12) ?_
  rintro _ rfl
  show yi_D zi_Ms d zi_m28 k (17, [(0, .inr (.inr (some 82)))], [.inl (ym_ct (lf (gd A W ev cm P) rows t) n)], (I, L1, R, Y), 0, 0) _
  refine yi_D_reti rfl ?_
  exact ⟨_, rfl, h12, h23⟩
