/-! The class cuts its tape. -/
/-- a token of the class -/
def cw_1 (kv pv vv Kv Pv Vv : Int) : Prop := kv = Kv ∧ pv = Pv ∧ (0 ≤ Pv ∧ Pv ≤ 1000) ∧ (Kv = 2 → vv = Vv ∧ 0 ≤ Vv ∧ Vv ≤ 9999) ∧ (Kv = 3 → sp_WR vv Vv) ∧ ¬ Kv = 0
section CW1
variable {v p c V : Int}
theorem cw_1w (hp : 0 ≤ p ∧ p ≤ 1000) (h : sp_WR v V) : cw_1 (sp_wk V) p v (sp_wk V) p V := by
  have h2 := sp_wk_b V
  exact ⟨rfl, rfl, hp, fun z => by omega, fun _ => h, by omega⟩
theorem cw_1b (hp : 0 ≤ p ∧ p ≤ 1000) : cw_1 1 p v 1 p V := ⟨rfl, rfl, hp, fun z => absurd z (by decide), fun z => absurd z (by decide), by decide⟩
theorem cw_1n (hp : 0 ≤ p ∧ p ≤ 1000) (hv : 0 ≤ v ∧ v ≤ 9999) : cw_1 2 p v 2 p v := ⟨rfl, rfl, hp, fun _ => ⟨rfl, hv⟩, fun z => absurd z (by decide), by decide⟩
theorem cw_1s (hp : 0 ≤ p ∧ p ≤ 1000) (hc : 33 ≤ c) : cw_1 c p v c p V := ⟨rfl, rfl, hp, fun z => by omega, fun z => by omega, by omega⟩
end CW1
def cw_W (I L : Nat → Nat → Int) (c : tk_C) : Prop := ∀ i, i < c.2.1 → cw_1 (I 14 i) (I 15 i) (L 16 i) (c.2.2.1 i) (c.2.2.2.1 i) (c.2.2.2.2 i)
def cw_F (I L I' L' : Nat → Nat → Int) : Prop := (∀ p k, ¬ (p = 12 ∧ k = 6) ∧ p ≠ 14 ∧ p ≠ 15 → I' p k = I p k) ∧ (∀ p k, p ≠ 16 → L' p k = L p k)
theorem cw_F_r (I L : Nat → Nat → Int) : cw_F I L I L := ⟨fun _ _ _ => rfl, fun _ _ _ => rfl⟩
theorem cw_F_t {I L I1 L1 I2 L2 : Nat → Nat → Int} (h : cw_F I L I1 L1) (h2 : cw_F I1 L1 I2 L2) : cw_F I L I2 L2 := ⟨fun p k a => (h2.1 p k a).trans (h.1 p k a), fun p k a => (h2.2 p k a).trans (h.2 p k a)⟩
section CWW
variable {I L I' L' : Nat → Nat → Int} {s : Nat → Int} {n : Nat} {c : tk_C} {kv vv : Int}
theorem cw_W_add (h : cw_W I L c) (hst : tk_st s n c = (tk_nx s n c.1, c.2.1 + 1, sp_up c.2.2.1 c.2.1 (tk_K s n c.1), sp_up c.2.2.2.1 c.2.1 c.1, sp_up c.2.2.2.2 c.2.1 (tk_V s n c.1))) (e1 : I' 14 c.2.1 = kv) (e3 : I' 15 c.2.1 = c.1) (e2 : L' 16 c.2.1 = vv) (hm : cw_1 kv c.1 vv (tk_K s n c.1) c.1 (tk_V s n c.1)) (f1 : ∀ p k, ¬ (p = 12 ∧ k = 6) ∧ ¬ (p = 14 ∧ k = c.2.1) ∧ ¬ (p = 15 ∧ k = c.2.1) → I' p k = I p k) (f2 : ∀ p k, ¬ (p = 16 ∧ k = c.2.1) → L' p k = L p k) : cw_W I' L' (tk_st s n c) ∧ cw_F I L I' L' := by
  refine ⟨?_, fun p k hp => f1 p k (by omega), fun p k hp => f2 p k (by omega)⟩
  rw [hst]
  intro i hi
  have hi : i < c.2.1 + 1 := hi
  show cw_1 (I' 14 i) (I' 15 i) (L' 16 i) (sp_up c.2.2.1 c.2.1 (tk_K s n c.1) i) (sp_up c.2.2.2.1 c.2.1 c.1 i) (sp_up c.2.2.2.2 c.2.1 (tk_V s n c.1) i)
  by_cases z : i = c.2.1
  · subst z
    rw [sp_up_e, sp_up_e, sp_up_e, e1, e2, e3]
    exact hm
  · rw [sp_up_n _ _ z, sp_up_n _ _ z, sp_up_n _ _ z, f1 14 i (by omega), f2 16 i (by omega), f1 15 i (by omega)]
    exact h i (by omega)
theorem cw_T_fin (h : cw_W I L c) (hR : tk_R s n c) (hc : n ≤ c.1) (hn : n ≤ 1000) (hi : c.2.1 ≤ n) (e0 : I' 12 6 = (c.2.1 : Int) + 1) (e1 : I' 14 c.2.1 = 0) (e3 : I' 15 c.2.1 = n) (f1 : ∀ p k, ¬ (p = 12 ∧ (k = 6 ∨ k = 5)) ∧ ¬ (p = 14 ∧ k = c.2.1) ∧ ¬ (p = 15 ∧ k = c.2.1) → I' p k = I p k) (f2 : ∀ p k, ¬ (p = 16 ∧ k = c.2.1) → L' p k = L p k) (hw : L 18 0 = 72564293 ∧ L 18 1 = 1265842 ∧ L 18 2 = 671108) : cs_T I' L' (tk_Ks s n) (tk_Ps s n) (tk_Vs s n) (tk_te s n) := by
  have hrun := tk_R_e hR hc
  have hd := tk_run_d (s := s) (n := n) n c.2.1 (by rw [hrun]; exact Nat.le_refl _)
  unfold tk_Ks tk_Ps tk_Vs tk_te
  rw [hrun] at hd ⊢
  refine ⟨by omega, e0, fun i hi => ?_, by rw [f2 18 0 (by omega), f2 18 1 (by omega), f2 18 2 (by omega)]; exact hw⟩
  by_cases z : i = c.2.1
  · subst z
    rw [hd.1, hd.2, e1, e3]
    exact ⟨rfl, rfl, by omega, fun z => absurd z (by decide), fun z => absurd z (by decide), ⟨fun _ => rfl, fun _ => rfl⟩⟩
  · rw [f1 14 i (by omega), f1 15 i (by omega), f2 16 i (by omega)]
    obtain ⟨a1, a2, a3, a4, a5, a6⟩ := h i (by omega)
    exact ⟨a1, a2, a3, a4, a5, ⟨fun y => absurd y a6, fun y => absurd y z⟩⟩
end CWW
/-- a word grows by a letter -/
theorem yi_lor5 {x c : Int} (hx : 0 ≤ x ∧ x < 1099511627776) (hc : 0 ≤ c ∧ c < 32) : yi_lor (yi_lshl x 5) c = 32 * x + c := by
  obtain ⟨n, rfl⟩ := Int.eq_ofNat_of_zero_le hx.1
  obtain ⟨m, rfl⟩ := Int.eq_ofNat_of_zero_le hc.1
  have hn : n < 1099511627776 := by omega
  have hm : m < 32 := by omega
  unfold yi_lor yi_lshl
  rw [Int64.ofInt_toInt]
  show ((Int64.ofInt n).toBitVec <<< (((Int32.ofInt 5).toInt64 &&& 63).toBitVec.smod 64) ||| (Int64.ofInt m).toBitVec).toInt = _
  rw [show (((Int32.ofInt 5).toInt64 &&& 63).toBitVec.smod 64) = 5#64 by decide, Int64.toBitVec_ofInt, Int64.toBitVec_ofInt, BitVec.ofInt_natCast, BitVec.ofInt_natCast]
  have h : (BitVec.ofNat 64 n <<< 5#64 ||| BitVec.ofNat 64 m).toNat = 32 * n + m := by
    rw [BitVec.toNat_or, BitVec.shiftLeft_eq', BitVec.toNat_shiftLeft, BitVec.toNat_ofNat, BitVec.toNat_ofNat, BitVec.toNat_ofNat]
    rw [Nat.mod_eq_of_lt (show n < 2 ^ 64 by omega), Nat.mod_eq_of_lt (show m < 2 ^ 64 by omega), show 5 % 2 ^ 64 = 5 by decide]
    have e := Nat.shiftLeft_add_eq_or_of_lt (i := 5) (b := m) (by omega) n
    rw [Nat.shiftLeft_eq] at e ⊢
    rw [Nat.mod_eq_of_lt (by omega), ← e]
    omega
  rw [BitVec.toInt_eq_toNat_of_lt (by rw [h]; omega), h]
  omega
theorem tk_R_b {s : Nat → Int} {n : Nat} {c : tk_C} (h : tk_R s n c) : c.1 ≤ n ∧ c.2.1 ≤ c.1 := by
  obtain ⟨j, e⟩ := h
  subst e
  have := tk_run_b (s := s) (n := n) j
  omega
theorem p_isLetter {d : Nat} {I L : Nat → Nat → Int} {R : Nat → Nat → Option Nat} {Y : (Nat → Nat) × (Nat → Nat) × Nat} {c : Int} : yi_P zi_Ms d 297 [.inl c] (I, L, R, Y) (fun r => ((97 ≤ c ∧ c ≤ 122) ∧ r = (some (.inl 1), (I, L, R, Y), 0, 0)) ∨ (¬ (97 ≤ c ∧ c ≤ 122) ∧ r = (some (.inl 0), (I, L, R, Y), 0, 0))) := by
  refine yi_P_of (M := zi_m297) rfl (fun d k => ?_)
  show yi_D zi_Ms d zi_m297 k (0, [(0, .inl c)], [], (I, L, R, Y), 0, 0) _
  refine yi_D_run 2 (3, [(0, .inl c)], [.inl 97, .inl c], (I, L, R, Y), 0, 0) (fun _ => rfl) ?_
  by_cases h1 : c < 97
  · refine yi_D_if2 true rfl (yi_lt_t h1) ?_
    refine yi_D_run 1 (17, [(0, .inl c)], [.inl 0], (I, L, R, Y), 0, 0) (fun _ => rfl) ?_
    refine yi_D_reti rfl ?_
    exact Or.inr ⟨by omega, rfl⟩
  · refine yi_D_if2 false rfl (yi_lt_f h1) ?_
    refine yi_D_run 2 (9, [(0, .inl c)], [.inl 122, .inl c], (I, L, R, Y), 0, 0) (fun _ => rfl) ?_
    by_cases h2 : 122 < c
    · refine yi_D_if2 true rfl (yi_gt_t h2) ?_
      refine yi_D_run 1 (17, [(0, .inl c)], [.inl 0], (I, L, R, Y), 0, 0) (fun _ => rfl) ?_
      refine yi_D_reti rfl ?_
      exact Or.inr ⟨by omega, rfl⟩
    · refine yi_D_if2 false rfl (yi_gt_f h2) ?_
      refine yi_D_run 2 (17, [(0, .inl c)], [.inl 1], (I, L, R, Y), 0, 0) (fun _ => rfl) ?_
      refine yi_D_reti rfl ?_
      exact Or.inl ⟨by omega, rfl⟩
theorem p_isDigit {d : Nat} {I L : Nat → Nat → Int} {R : Nat → Nat → Option Nat} {Y : (Nat → Nat) × (Nat → Nat) × Nat} {c : Int} : yi_P zi_Ms d 296 [.inl c] (I, L, R, Y) (fun r => ((48 ≤ c ∧ c ≤ 57) ∧ r = (some (.inl 1), (I, L, R, Y), 0, 0)) ∨ (¬ (48 ≤ c ∧ c ≤ 57) ∧ r = (some (.inl 0), (I, L, R, Y), 0, 0))) := by
  refine yi_P_of (M := zi_m296) rfl (fun d k => ?_)
  show yi_D zi_Ms d zi_m296 k (0, [(0, .inl c)], [], (I, L, R, Y), 0, 0) _
  refine yi_D_run 2 (3, [(0, .inl c)], [.inl 48, .inl c], (I, L, R, Y), 0, 0) (fun _ => rfl) ?_
  by_cases h1 : c < 48
  · refine yi_D_if2 true rfl (yi_lt_t h1) ?_
    refine yi_D_run 1 (17, [(0, .inl c)], [.inl 0], (I, L, R, Y), 0, 0) (fun _ => rfl) ?_
    refine yi_D_reti rfl ?_
    exact Or.inr ⟨by omega, rfl⟩
  · refine yi_D_if2 false rfl (yi_lt_f h1) ?_
    refine yi_D_run 2 (9, [(0, .inl c)], [.inl 57, .inl c], (I, L, R, Y), 0, 0) (fun _ => rfl) ?_
    by_cases h2 : 57 < c
    · refine yi_D_if2 true rfl (yi_gt_t h2) ?_
      refine yi_D_run 1 (17, [(0, .inl c)], [.inl 0], (I, L, R, Y), 0, 0) (fun _ => rfl) ?_
      refine yi_D_reti rfl ?_
      exact Or.inr ⟨by omega, rfl⟩
    · refine yi_D_if2 false rfl (yi_gt_f h2) ?_
      refine yi_D_run 2 (17, [(0, .inl c)], [.inl 1], (I, L, R, Y), 0, 0) (fun _ => rfl) ?_
      refine yi_D_reti rfl ?_
      exact Or.inl ⟨by omega, rfl⟩
theorem p_signAt {d : Nat} {I L : Nat → Nat → Int} {R : Nat → Nat → Option Nat} {Y : (Nat → Nat) × (Nat → Nat) × Nat} {s : Nat → Int} {n : Nat} (hX : cs_S R Y ∧ True) (hn : n ≤ 1000) (h5 : I 12 5 = (n : Int)) (hs : ∀ i, i < n → I 13 i = s i) {x : Int} : yi_P zi_Ms d 300 [.inr (.inr (some 12)), .inl x] (I, L, R, Y) (fun r => ∃ z, r = (some (.inl z), (I, L, R, Y), 0, 0) ∧ (0 ≤ x ∧ x < n → z = s x.toNat) ∧ (¬ (0 ≤ x ∧ x < n) → z = 0)) := by
  refine yi_P_of (M := zi_m300) rfl (fun d k => ?_)
  show yi_D zi_Ms d zi_m300 k (0, [(0, .inr (.inr (some 12))), (1, .inl x)], [], (I, L, R, Y), 0, 0) _
  refine yi_D_run 1 (1, [(0, .inr (.inr (some 12))), (1, .inl x)], [.inl x], (I, L, R, Y), 0, 0) (fun _ => rfl) ?_
  by_cases h1 : x < 0
  · refine yi_D_if1 true rfl (yi_lt_t h1) ?_
    refine yi_D_run 1 (31, [(0, .inr (.inr (some 12))), (1, .inl x)], [.inl 0], (I, L, R, Y), 0, 0) (fun _ => rfl) ?_
    refine yi_D_reti rfl ?_
    first
    | (exfalso; omega)
    | exact ⟨_, rfl, fun _ => hs _ (by omega), fun h => absurd ⟨by omega, by omega⟩ h⟩
    | exact ⟨_, rfl, fun h => by omega, fun _ => rfl⟩
  · refine yi_D_if1 false rfl (yi_lt_f h1) ?_
    refine yi_D_run 2 (6, [(0, .inr (.inr (some 12))), (1, .inl x)], [.inr (.inr (some 12)), .inl x], (I, L, R, Y), 0, 0) (fun _ => rfl) ?_
    refine yi_D_gi (v := (n : Int)) rfl rfl rfl h5 (fun _ => ?_)
    by_cases h2 : (n : Int) ≤ x
    · refine yi_D_if2 true rfl (yi_ge_t h2) ?_
      refine yi_D_run 1 (31, [(0, .inr (.inr (some 12))), (1, .inl x)], [.inl 0], (I, L, R, Y), 0, 0) (fun _ => rfl) ?_
      refine yi_D_reti rfl ?_
      first
      | (exfalso; omega)
      | exact ⟨_, rfl, fun _ => hs _ (by omega), fun h => absurd ⟨by omega, by omega⟩ h⟩
      | exact ⟨_, rfl, fun h => by omega, fun _ => rfl⟩
    · refine yi_D_if2 false rfl (yi_ge_f h2) ?_
      refine yi_D_run 2 (14, [(0, .inr (.inr (some 12))), (1, .inl x)], [.inr (.inr (some 12)), .inl x], (I, L, R, Y), 0, 0) (fun _ => rfl) ?_
      refine yi_D_gr (v := some 13) rfl rfl rfl hX.1.2.1.1 (fun _ => ?_)
      refine yi_D_len (v := 1000) rfl rfl (by rw [hX.1.2.2.1]; rfl) ?_
      by_cases h3 : 1000 ≤ x
      · refine yi_D_if2 true rfl (yi_ge_t h3) ?_
        refine yi_D_run 1 (31, [(0, .inr (.inr (some 12))), (1, .inl x)], [.inl 0], (I, L, R, Y), 0, 0) (fun _ => rfl) ?_
        refine yi_D_reti rfl ?_
        first
        | (exfalso; omega)
        | exact ⟨_, rfl, fun _ => hs _ (by omega), fun h => absurd ⟨by omega, by omega⟩ h⟩
        | exact ⟨_, rfl, fun h => by omega, fun _ => rfl⟩
      · refine yi_D_if2 false rfl (yi_ge_f h3) ?_
        refine yi_D_run 1 (22, [(0, .inr (.inr (some 12))), (1, .inl x)], [.inr (.inr (some 12))], (I, L, R, Y), 0, 0) (fun _ => rfl) ?_
        refine yi_D_gr (v := some 13) rfl rfl rfl hX.1.2.1.1 (fun _ => ?_)
        refine yi_D_run 1 (26, [(0, .inr (.inr (some 12))), (1, .inl x)], [.inl x, .inr (.inr (some 13))], (I, L, R, Y), 0, 0) (fun _ => rfl) ?_
        refine yi_D_cl (v := I 13 (x.toNat)) rfl rfl rfl (fun _ _ => ?_)
        refine yi_D_run 1 (31, [(0, .inr (.inr (some 12))), (1, .inl x)], [.inl (I 13 (x.toNat))], (I, L, R, Y), 0, 0) (fun _ => rfl) ?_
        refine yi_D_reti rfl ?_
        first
        | (exfalso; omega)
        | exact ⟨_, rfl, fun _ => hs _ (by omega), fun h => absurd ⟨by omega, by omega⟩ h⟩
        | exact ⟨_, rfl, fun h => by omega, fun _ => rfl⟩
theorem p_addToken {d : Nat} {I L : Nat → Nat → Int} {R : Nat → Nat → Option Nat} {Y : (Nat → Nat) × (Nat → Nat) × Nat} (hX : cs_S R Y ∧ True) {x y v : Int} {t : Nat} (h6 : I 12 6 = (t : Int)) (ht : t ≤ 1000) : yi_P zi_Ms d 291 [.inr (.inr (some 12)), .inl x, .inl y, .inr (.inl v)] (I, L, R, Y) (fun r => ∃ I' L', r = (none, (I', L', R, Y), 0, 0) ∧ I' 14 t = x ∧ I' 15 t = y ∧ L' 16 t = v ∧ I' 12 6 = (t : Int) + 1 ∧ (∀ p k, ¬ (p = 12 ∧ k = 6) ∧ ¬ (p = 14 ∧ k = t) ∧ ¬ (p = 15 ∧ k = t) → I' p k = I p k) ∧ (∀ p k, ¬ (p = 16 ∧ k = t) → L' p k = L p k)) := by
  refine yi_P_of (M := zi_m291) rfl (fun d k => ?_)
  show yi_D zi_Ms d zi_m291 k (0, [(0, .inr (.inr (some 12))), (1, .inl x), (2, .inl y), (3, .inr (.inl v))], [], (I, L, R, Y), 0, 0) _
  refine yi_D_run 1 (1, [(0, .inr (.inr (some 12))), (1, .inl x), (2, .inl y), (3, .inr (.inl v))], [.inr (.inr (some 12))], (I, L, R, Y), 0, 0) (fun _ => rfl) ?_
  refine yi_D_gi (v := (t : Int)) rfl rfl rfl h6 (fun _ => ?_)
  refine yi_D_run 1 (5, [(0, .inr (.inr (some 12))), (1, .inl x), (2, .inl y), (3, .inr (.inl v))], [.inr (.inr (some 12)), .inl (t : Int)], (I, L, R, Y), 0, 0) (fun _ => rfl) ?_
  refine yi_D_gr (v := some 14) rfl rfl rfl hX.1.2.1.2.1 (fun _ => ?_)
  refine yi_D_len (v := 1001) rfl rfl (by rw [hX.1.2.2.2.1]; rfl) ?_
  by_cases h1 : 1001 ≤ (t : Int)
  · refine yi_D_if2 true rfl (yi_ge_t h1) ?_
    refine yi_D_retv rfl ?_
    exfalso; omega
  · refine yi_D_if2 false rfl (yi_ge_f h1) ?_
    refine yi_D_run 1 (13, [(0, .inr (.inr (some 12))), (1, .inl x), (2, .inl y), (3, .inr (.inl v))], [.inr (.inr (some 12))], (I, L, R, Y), 0, 0) (fun _ => rfl) ?_
    refine yi_D_gi (v := (t : Int)) rfl rfl rfl h6 (fun _ => ?_)
    refine yi_D_run 1 (17, [(0, .inr (.inr (some 12))), (1, .inl x), (2, .inl y), (3, .inr (.inl v))], [.inr (.inr (some 12)), .inl (t : Int)], (I, L, R, Y), 0, 0) (fun _ => rfl) ?_
    refine yi_D_gr (v := some 15) rfl rfl rfl hX.1.2.1.2.2.1 (fun _ => ?_)
    refine yi_D_len (v := 1001) rfl rfl (by rw [hX.1.2.2.2.2.1]; rfl) ?_
    have h2 : ¬ (1001 ≤ (t : Int)) := by omega
    refine yi_D_if2 false rfl (yi_ge_f h2) ?_
    refine yi_D_run 1 (25, [(0, .inr (.inr (some 12))), (1, .inl x), (2, .inl y), (3, .inr (.inl v))], [.inr (.inr (some 12))], (I, L, R, Y), 0, 0) (fun _ => rfl) ?_
    refine yi_D_gi (v := (t : Int)) rfl rfl rfl h6 (fun _ => ?_)
    refine yi_D_run 1 (29, [(0, .inr (.inr (some 12))), (1, .inl x), (2, .inl y), (3, .inr (.inl v))], [.inr (.inr (some 12)), .inl (t : Int)], (I, L, R, Y), 0, 0) (fun _ => rfl) ?_
    refine yi_D_gr (v := some 16) rfl rfl rfl hX.1.2.1.2.2.2.1 (fun _ => ?_)
    refine yi_D_len (v := 1001) rfl rfl (by rw [hX.1.2.2.2.2.2.1]; rfl) ?_
    have h3 : ¬ (1001 ≤ (t : Int)) := by omega
    refine yi_D_if2 false rfl (yi_ge_f h3) ?_
    refine yi_D_run 1 (37, [(0, .inr (.inr (some 12))), (1, .inl x), (2, .inl y), (3, .inr (.inl v))], [.inr (.inr (some 12))], (I, L, R, Y), 0, 0) (fun _ => rfl) ?_
    refine yi_D_gr (v := some 14) rfl rfl rfl hX.1.2.1.2.1 (fun _ => ?_)
    refine yi_D_run 1 (41, [(0, .inr (.inr (some 12))), (1, .inl x), (2, .inl y), (3, .inr (.inl v))], [.inr (.inr (some 12)), .inr (.inr (some 14))], (I, L, R, Y), 0, 0) (fun _ => rfl) ?_
    refine yi_D_gi (v := (t : Int)) rfl rfl rfl h6 (fun _ => ?_)
    refine yi_D_run 1 (45, [(0, .inr (.inr (some 12))), (1, .inl x), (2, .inl y), (3, .inr (.inl v))], [.inl x, .inl (t : Int), .inr (.inr (some 14))], (I, L, R, Y), 0, 0) (fun _ => rfl) ?_
    refine yi_D_is rfl (fun _ _ => ?_)
    generalize w5 : yi_u I 14 ((t : Int).toNat) x = I4
    refine yi_D_run 1 (47, [(0, .inr (.inr (some 12))), (1, .inl x), (2, .inl y), (3, .inr (.inl v))], [.inr (.inr (some 12))], (I4, L, R, Y), 0, 0) (fun _ => rfl) ?_
    refine yi_D_gr (v := some 15) rfl rfl rfl hX.1.2.1.2.2.1 (fun _ => ?_)
    refine yi_D_run 1 (51, [(0, .inr (.inr (some 12))), (1, .inl x), (2, .inl y), (3, .inr (.inl v))], [.inr (.inr (some 12)), .inr (.inr (some 15))], (I4, L, R, Y), 0, 0) (fun _ => rfl) ?_
    have r6 : I4 12 6 = (t : Int) := by rw [← w5, yi_u_ne _ _ (by omega), h6]
    refine yi_D_gi (v := (t : Int)) rfl rfl rfl r6 (fun _ => ?_)
    refine yi_D_run 1 (55, [(0, .inr (.inr (some 12))), (1, .inl x), (2, .inl y), (3, .inr (.inl v))], [.inl y, .inl (t : Int), .inr (.inr (some 15))], (I4, L, R, Y), 0, 0) (fun _ => rfl) ?_
    refine yi_D_is rfl (fun _ _ => ?_)
    generalize w8 : yi_u I4 15 ((t : Int).toNat) y = I7
    refine yi_D_run 1 (57, [(0, .inr (.inr (some 12))), (1, .inl x), (2, .inl y), (3, .inr (.inl v))], [.inr (.inr (some 12))], (I7, L, R, Y), 0, 0) (fun _ => rfl) ?_
    refine yi_D_gr (v := some 16) rfl rfl rfl hX.1.2.1.2.2.2.1 (fun _ => ?_)
    refine yi_D_run 1 (61, [(0, .inr (.inr (some 12))), (1, .inl x), (2, .inl y), (3, .inr (.inl v))], [.inr (.inr (some 12)), .inr (.inr (some 16))], (I7, L, R, Y), 0, 0) (fun _ => rfl) ?_
    have r9 : I7 12 6 = (t : Int) := by rw [← w8, yi_u_ne _ _ (by omega), ← w5, yi_u_ne _ _ (by omega), h6]
    refine yi_D_gi (v := (t : Int)) rfl rfl rfl r9 (fun _ => ?_)
    refine yi_D_run 1 (65, [(0, .inr (.inr (some 12))), (1, .inl x), (2, .inl y), (3, .inr (.inl v))], [.inr (.inl v), .inl (t : Int), .inr (.inr (some 16))], (I7, L, R, Y), 0, 0) (fun _ => rfl) ?_
    refine yi_D_ls rfl (fun _ _ => ?_)
    generalize w11 : yi_u L 16 ((t : Int).toNat) v = L10
    refine yi_D_run 2 (68, [(0, .inr (.inr (some 12))), (1, .inl x), (2, .inl y), (3, .inr (.inl v))], [.inr (.inr (some 12)), .inr (.inr (some 12))], (I7, L10, R, Y), 0, 0) (fun _ => rfl) ?_
    have r12 : I7 12 6 = (t : Int) := by rw [← w8, yi_u_ne _ _ (by omega), ← w5, yi_u_ne _ _ (by omega), h6]
    refine yi_D_gi (v := (t : Int)) rfl rfl rfl r12 (fun _ => ?_)
    refine yi_D_run 1 (72, [(0, .inr (.inr (some 12))), (1, .inl x), (2, .inl y), (3, .inr (.inl v))], [.inl 1, .inl (t : Int), .inr (.inr (some 12))], (I7, L10, R, Y), 0, 0) (fun _ => rfl) ?_
    refine yi_D_iadd rfl ((t : Int) + 1) (yi_wn (by omega) (by omega)) ?_
    refine yi_D_pi rfl (fun _ => ?_)
    generalize w14 : yi_u I7 12 6 ((t : Int) + 1) = I13
    refine yi_D_retv rfl ?_
    have ht2 : t = (t : Int).toNat := by omega
    refine ⟨_, _, rfl, by rw [← w14, yi_u_ne _ _ (by omega), ← w8, yi_u_ne _ _ (by omega), ← w5]; exact yi_u_eq .., by rw [← w14, yi_u_ne _ _ (by omega), ← w8]; exact yi_u_eq .., by rw [← w11]; exact yi_u_eq .., by rw [← w14, yi_u_eq], fun p k hp => by rw [← w14, yi_u_ne _ _ (by omega), ← w8, yi_u_ne _ _ (by omega), ← w5, yi_u_ne _ _ (by omega)], fun p k hp => by rw [← w11, yi_u_ne _ _ (by omega)]⟩
theorem p_wordKind {d : Nat} {I L : Nat → Nat → Int} {R : Nat → Nat → Option Nat} {Y : (Nat → Nat) × (Nat → Nat) × Nat} (hX : cs_S R Y ∧ True) (hk : ∀ j : Nat, j < 29 → sp_WR (L 17 j) (sp_W37.getD j 0)) {x w : Int} (hw : sp_WR x w) : yi_P zi_Ms d 301 [.inr (.inr (some 12)), .inr (.inl x)] (I, L, R, Y) (fun r => r = (some (.inl (sp_wk w)), (I, L, R, Y), 0, 0)) := by
  refine yi_P_of (M := zi_m301) rfl (fun d k => ?_)
  show yi_D zi_Ms d zi_m301 k (0, [(0, .inr (.inr (some 12))), (1, .inr (.inl x))], [], (I, L, R, Y), 0, 0) _
  refine yi_D_run 2 (2, [(3, .inl 0), (0, .inr (.inr (some 12))), (1, .inr (.inl x))], [], (I, L, R, Y), 0, 0) (fun _ => rfl) ?_
  have pt2 : ∀ j2, j2 ≤ k → ∀ (y3 : Int), (0 ≤ y3 ∧ y3 ≤ 29) → (∀ j : Nat, (j : Int) < y3 → ¬ L 17 j = x) → yi_D zi_Ms d zi_m301 j2 (2, [(3, .inl y3), (0, .inr (.inr (some 12))), (1, .inr (.inl x))], [], (I, L, R, Y), 0, 0) (fun r => r = (some (.inl (sp_wk w)), (I, L, R, Y), 0, 0)) := by
    intro j2
    induction j2 with
    | zero => intros; exact yi_D_0
    | succ j2 ih2 =>
    intro hk2 y3 hy hn
    refine yi_D_run1 1 (4, [(3, .inl y3), (0, .inr (.inr (some 12))), (1, .inr (.inl x))], [.inr (.inr (some 12)), .inl y3], (I, L, R, Y), 0, 0) (fun _ => rfl) ?_
    refine yi_D_gr (v := some 17) rfl rfl rfl hX.1.2.1.2.2.2.2 (fun _ => ?_)
    refine yi_D_len (v := 29) rfl rfl (by rw [hX.1.2.2.2.2.2.2.1]; rfl) ?_
    by_cases h1 : 29 ≤ y3
    · refine yi_D_if2 true rfl (yi_ge_t h1) ?_
      refine yi_D_run 1 (33, [(3, .inl y3), (0, .inr (.inr (some 12))), (1, .inr (.inl x))], [.inl 3], (I, L, R, Y), 0, 0) (fun _ => rfl) ?_
      refine yi_D_reti rfl ?_
      have hb := sp_wk_b w
      have hz : sp_wk w = 3 := by
        by_cases e : sp_wk w = 3
        · exact e
        · exfalso
          obtain ⟨j, hj, ej⟩ : ∃ j : Nat, j < 29 ∧ sp_wk w = 4 + (j : Int) := by
            by_cases e2 : sp_wk w < 33
            · exact ⟨(sp_wk w - 4).toNat, by omega, by omega⟩
            · omega
          rw [sp_wk_iff hj] at ej
          have a := hk j hj
          rw [← ej] at a
          exact hn j (by omega) (sp_WR_x a hw)
      rw [hz]
    · refine yi_D_if2 false rfl (yi_ge_f h1) ?_
      refine yi_D_run 1 (12, [(3, .inl y3), (0, .inr (.inr (some 12))), (1, .inr (.inl x))], [.inr (.inr (some 12))], (I, L, R, Y), 0, 0) (fun _ => rfl) ?_
      refine yi_D_gr (v := some 17) rfl rfl rfl hX.1.2.1.2.2.2.2 (fun _ => ?_)
      refine yi_D_run 1 (16, [(3, .inl y3), (0, .inr (.inr (some 12))), (1, .inr (.inl x))], [.inl y3, .inr (.inr (some 17))], (I, L, R, Y), 0, 0) (fun _ => rfl) ?_
      refine yi_D_ll (v := L 17 (y3.toNat)) rfl rfl rfl (fun _ _ => ?_)
      refine yi_D_run 2 (19, [(3, .inl y3), (0, .inr (.inr (some 12))), (1, .inr (.inl x))], [.inl (yi_lcmp (L 17 (y3.toNat)) x)], (I, L, R, Y), 0, 0) (fun _ => rfl) ?_
      by_cases h2 : (L 17 (y3.toNat)) = x
      · refine yi_D_if1 false rfl (yi_Lne_f h2) ?_
        refine yi_D_run 2 (24, [(3, .inl y3), (0, .inr (.inr (some 12))), (1, .inr (.inl x))], [.inl y3, .inl 4], (I, L, R, Y), 0, 0) (fun _ => rfl) ?_
        refine yi_D_iadd rfl (4 + y3) (yi_wn (by omega) (by omega)) ?_
        refine yi_D_reti rfl ?_
        have hz : sp_wk w = 4 + y3 := by
          have a := hk y3.toNat (by omega)
          have b : L 17 y3.toNat = x := by assumption
          rw [b] at a
          have := (sp_wk_iff (w := y3.toNat) (by omega)).mpr (sp_WR_v hw a)
          omega
        rw [hz]
      · refine yi_D_if1 true rfl (yi_Lne_t h2) ?_
        refine yi_D_iinc [(3, .inl (y3 + 1)), (0, .inr (.inr (some 12))), (1, .inr (.inl x))] rfl rfl rfl (by rw [show yi_w (y3 + 1) = y3 + 1 from (yi_wn (by omega) (by omega)).trans (by omega)]; rfl) ?_
        refine yi_D_run 1 (2, [(3, .inl (y3 + 1)), (0, .inr (.inr (some 12))), (1, .inr (.inl x))], [], (I, L, R, Y), 0, 0) (fun _ => rfl) ?_
        exact yi_D_mono (ih2 (by omega) (y3 + 1) (by omega) (fun j hj => by by_cases e : (j : Int) = y3; rw [show j = y3.toNat by omega]; assumption; exact hn j (by omega))) (by omega)
  exact pt2 k (Nat.le_refl _) 0 (by omega) (fun j hj => by omega)
theorem p_cutWord {d : Nat} {I L : Nat → Nat → Int} {R : Nat → Nat → Option Nat} {Y : (Nat → Nat) × (Nat → Nat) × Nat} {s : Nat → Int} {n : Nat} (hX : cs_S R Y ∧ True) (hn : n ≤ 1000) (h5 : I 12 5 = (n : Int)) (hs : ∀ i, i < n → I 13 i = s i) (hb : ∀ i, i < n → 0 ≤ s i ∧ s i ≤ 127) (hk : ∀ j : Nat, j < 29 → sp_WR (L 17 j) (sp_W37.getD j 0)) {c : tk_C} (hc : c.1 < n) (hci : c.2.1 ≤ c.1) (h6 : I 12 6 = (c.2.1 : Int)) (hK : cw_W I L c) {x : Int} (hx : x = (c.1 : Int)) (hlt : tk_lt (s c.1) = true) : yi_P zi_Ms d 295 [.inr (.inr (some 12)), .inl x] (I, L, R, Y) (fun r => ∃ I' L', r = (some (.inl ((tk_st s n c).1 : Int)), (I', L', R, Y), 0, 0) ∧ cw_W I' L' (tk_st s n c) ∧ I' 12 6 = ((tk_st s n c).2.1 : Int) ∧ cw_F I L I' L') := by
  refine yi_P_of (M := zi_m295) rfl (fun d k => ?_)
  have hltv := tk_lt_t.mp hlt
  show yi_D zi_Ms d zi_m295 k (0, [(0, .inr (.inr (some 12))), (1, .inl x)], [], (I, L, R, Y), 0, 0) _
  refine yi_D_run 6 (7, [(5, .inl 0), (3, .inr (.inl 0)), (2, .inl x), (0, .inr (.inr (some 12))), (1, .inl x)], [], (I, L, R, Y), 0, 0) (fun _ => rfl) ?_
  have pt7 : ∀ j7, j7 ≤ k → ∀ (x5 : Int) (x3 : Int) (x2 : Int), (x2 = x + x5 ∧ 0 ≤ x5 ∧ x5 ≤ 1000 ∧ x2 ≤ n) → (∀ j : Nat, j < x5.toNat → tk_lt (s (c.1 + j)) = true) → (x5 ≤ 8 → x3 = sp_e 32 (tk_w s c.1 x5.toNat)) → yi_D zi_Ms d zi_m295 j7 (7, [(5, .inl x5), (3, .inr (.inl x3)), (2, .inl x2), (0, .inr (.inr (some 12))), (1, .inl x)], [], (I, L, R, Y), 0, 0) (fun r => ∃ I' L', r = (some (.inl ((tk_st s n c).1 : Int)), (I', L', R, Y), 0, 0) ∧ cw_W I' L' (tk_st s n c) ∧ I' 12 6 = ((tk_st s n c).2.1 : Int) ∧ cw_F I L I' L') := by
    intro j7
    induction j7 with
    | zero => intros; exact yi_D_0
    | succ j7 ih7 =>
    intro hk7 x5 x3 x2 h2 ha hv
    refine yi_D_run1 1 (12, [(5, .inl x5), (3, .inr (.inl x3)), (2, .inl x2), (0, .inr (.inr (some 12))), (1, .inl x)], [.inl 1000, .inl x5], (I, L, R, Y), 0, 0) (fun _ => rfl) ?_
    by_cases h1 : 1000 ≤ x5
    · refine yi_D_if2 true rfl (yi_ge_t h1) ?_
      have hend : c.1 + x5.toNat = n ∨ tk_lt (s (c.1 + x5.toNat)) = false := by
        by_cases hq : x2 < n
        · right
          exfalso; omega
        · left
          omega
      refine yi_D_run 3 (54, [(5, .inl x5), (3, .inr (.inl x3)), (2, .inl x2), (0, .inr (.inr (some 12))), (1, .inl x)], [.inl x, .inl x2, .inr (.inr (some 12))], (I, L, R, Y), 0, 0) (fun _ => rfl) ?_
      refine yi_D_isub rfl (x2 - x) (yi_wn (by omega) (by omega)) ?_
      refine yi_D_run 1 (57, [(5, .inl x5), (3, .inr (.inl x3)), (2, .inl x2), (0, .inr (.inr (some 12))), (1, .inl x)], [.inl 8, .inl (x2 - x), .inr (.inr (some 12))], (I, L, R, Y), 0, 0) (fun _ => rfl) ?_
      by_cases h2 : (x2 - x) ≤ 8
      · refine yi_D_if2 true rfl (yi_le_t h2) ?_
        refine yi_D_run 2 (66, [(5, .inl x5), (3, .inr (.inl x3)), (2, .inl x2), (0, .inr (.inr (some 12))), (1, .inl x)], [.inr (.inl x3), .inr (.inr (some 12)), .inr (.inr (some 12))], (I, L, R, Y), 0, 0) (fun _ => rfl) ?_
        have hwr : sp_WR x3 (sp_e 37 (tk_w s c.1 x5.toNat)) := ⟨tk_w s c.1 x5.toNat, by rw [tk_w_l]; omega, tk_w_b _ ha, hv (by omega), rfl⟩
        refine yi_D_callv rfl (p_wordKind hX hk (w := sp_e 37 (tk_w s c.1 x5.toNat)) hwr) ?_
        rintro _ rfl
        show yi_D zi_Ms d zi_m295 j7 (69, [(5, .inl x5), (3, .inr (.inl x3)), (2, .inl x2), (0, .inr (.inr (some 12))), (1, .inl x)], [.inl (sp_wk (sp_e 37 (tk_w s c.1 x5.toNat))), .inr (.inr (some 12))], (I, L, R, Y), 0, 0) _
        refine yi_D_run 2 (71, [(5, .inl x5), (3, .inr (.inl x3)), (2, .inl x2), (0, .inr (.inr (some 12))), (1, .inl x)], [.inr (.inl x3), .inl x, .inl (sp_wk (sp_e 37 (tk_w s c.1 x5.toNat))), .inr (.inr (some 12))], (I, L, R, Y), 0, 0) (fun _ => rfl) ?_
        refine yi_D_callv rfl (p_addToken hX (t := c.2.1) (by first | exact h6 | exact h6) (by omega)) ?_
        rintro _ ⟨I3, L4, rfl, e5, e6, e7, e8, f9, f10⟩
        show yi_D zi_Ms d zi_m295 j7 (74, [(5, .inl x5), (3, .inr (.inl x3)), (2, .inl x2), (0, .inr (.inr (some 12))), (1, .inl x)], [], (I3, L4, R, Y), 0, 0) _
        refine yi_D_run 1 (75, [(5, .inl x5), (3, .inr (.inl x3)), (2, .inl x2), (0, .inr (.inr (some 12))), (1, .inl x)], [.inl x2], (I3, L4, R, Y), 0, 0) (fun _ => rfl) ?_
        refine yi_D_reti rfl ?_
        have hst : tk_st s n c = (tk_nx s n c.1, c.2.1 + 1, sp_up c.2.2.1 c.2.1 (tk_K s n c.1), sp_up c.2.2.2.1 c.2.1 c.1, sp_up c.2.2.2.2 c.2.1 (tk_V s n c.1)) := by unfold tk_st; rw [if_pos (by omega), if_neg (by omega)]
        have hp1 : 0 ≤ (c.1 : Int) ∧ (c.1 : Int) ≤ 1000 := by omega
        have htk := tk_nx_w (s := s) (n := n) (k := c.1) (m := x5.toNat) (by omega) hlt (by omega) ha hend
        have hm1 : cw_1 (sp_wk (sp_e 37 (tk_w s c.1 x5.toNat))) c.1 (x3) (tk_K s n c.1) c.1 (tk_V s n c.1) := by
          rw [htk.2.1, htk.2.2]
          rw [if_neg (by omega), if_neg (by omega)]
          exact cw_1w hp1 hwr
        have hfin := cw_W_add hK hst (e5) ((e6).trans (by omega)) e7 hm1 f9 f10
        have hnx : (tk_st s n c).1 = tk_nx s n c.1 := by rw [hst]
        have hni : (tk_st s n c).2.1 = c.2.1 + 1 := by rw [hst]
        exact ⟨_, _, by rw [show x2 = ((tk_st s n c).1 : Int) by omega], hfin.1, by rw [e8, hni]; omega, hfin.2⟩
      · refine yi_D_if2 false rfl (yi_le_f h2) ?_
        refine yi_D_run 4 (71, [(5, .inl x5), (3, .inr (.inl x3)), (2, .inl x2), (0, .inr (.inr (some 12))), (1, .inl x)], [.inr (.inl x3), .inl x, .inl 1, .inr (.inr (some 12))], (I, L, R, Y), 0, 0) (fun _ => rfl) ?_
        refine yi_D_callv rfl (p_addToken hX (t := c.2.1) (by first | exact h6 | exact h6) (by omega)) ?_
        rintro _ ⟨I11, L12, rfl, e13, e14, e15, e16, f17, f18⟩
        show yi_D zi_Ms d zi_m295 j7 (74, [(5, .inl x5), (3, .inr (.inl x3)), (2, .inl x2), (0, .inr (.inr (some 12))), (1, .inl x)], [], (I11, L12, R, Y), 0, 0) _
        refine yi_D_run 1 (75, [(5, .inl x5), (3, .inr (.inl x3)), (2, .inl x2), (0, .inr (.inr (some 12))), (1, .inl x)], [.inl x2], (I11, L12, R, Y), 0, 0) (fun _ => rfl) ?_
        refine yi_D_reti rfl ?_
        have hst : tk_st s n c = (tk_nx s n c.1, c.2.1 + 1, sp_up c.2.2.1 c.2.1 (tk_K s n c.1), sp_up c.2.2.2.1 c.2.1 c.1, sp_up c.2.2.2.2 c.2.1 (tk_V s n c.1)) := by unfold tk_st; rw [if_pos (by omega), if_neg (by omega)]
        have hp1 : 0 ≤ (c.1 : Int) ∧ (c.1 : Int) ≤ 1000 := by omega
        have htk := tk_nx_w (s := s) (n := n) (k := c.1) (m := x5.toNat) (by omega) hlt (by omega) ha hend
        have hm1 : cw_1 (1) c.1 (x3) (tk_K s n c.1) c.1 (tk_V s n c.1) := by
          rw [htk.2.1, htk.2.2]
          rw [if_pos (by omega), if_pos (by omega)]
          exact cw_1b hp1
        have hfin := cw_W_add hK hst (e13) ((e14).trans (by omega)) e15 hm1 f17 f18
        have hnx : (tk_st s n c).1 = tk_nx s n c.1 := by rw [hst]
        have hni : (tk_st s n c).2.1 = c.2.1 + 1 := by rw [hst]
        exact ⟨_, _, by rw [show x2 = ((tk_st s n c).1 : Int) by omega], hfin.1, by rw [e16, hni]; omega, hfin.2⟩
    · refine yi_D_if2 false rfl (yi_ge_f h1) ?_
      refine yi_D_run 2 (17, [(5, .inl x5), (3, .inr (.inl x3)), (2, .inl x2), (0, .inr (.inr (some 12))), (1, .inl x)], [.inl x2, .inr (.inr (some 12))], (I, L, R, Y), 0, 0) (fun _ => rfl) ?_
      refine yi_D_callv rfl (p_signAt hX hn h5 hs) ?_
      rintro _ ⟨z19, rfl, hz20, hy21⟩
      show yi_D zi_Ms d zi_m295 j7 (20, [(5, .inl x5), (3, .inr (.inl x3)), (2, .inl x2), (0, .inr (.inr (some 12))), (1, .inl x)], [.inl z19], (I, L, R, Y), 0, 0) _
      refine yi_D_calls rfl (p_isLetter) ?_
      rintro _ (⟨c22, rfl⟩ | ⟨c22, rfl⟩)
      · show yi_D zi_Ms d zi_m295 j7 (23, [(5, .inl x5), (3, .inr (.inl x3)), (2, .inl x2), (0, .inr (.inr (some 12))), (1, .inl x)], [.inl 1], (I, L, R, Y), 0, 0) _
        refine yi_D_if1 false rfl (by decide) ?_
        have hlt2 : x2 < n := by by_cases e : x2 < n; exact e; exfalso; omega
        refine yi_D_run 5 (31, [(5, .inl x5), (3, .inr (.inl x3)), (2, .inl x2), (0, .inr (.inr (some 12))), (1, .inl x)], [.inl x2, .inr (.inr (some 12)), .inr (.inl (yi_lshl x3 5))], (I, L, R, Y), 0, 0) (fun _ => rfl) ?_
        refine yi_D_callv rfl (p_signAt hX hn h5 hs) ?_
        rintro _ ⟨z23, rfl, hz24, hy25⟩
        show yi_D zi_Ms d zi_m295 j7 (34, [(5, .inl x5), (3, .inr (.inl x3)), (2, .inl x2), (0, .inr (.inr (some 12))), (1, .inl x)], [.inl z23, .inr (.inl (yi_lshl x3 5))], (I, L, R, Y), 0, 0) _
        refine yi_D_run 1 (36, [(5, .inl x5), (3, .inr (.inl x3)), (2, .inl x2), (0, .inr (.inr (some 12))), (1, .inl x)], [.inl 97, .inl z23, .inr (.inl (yi_lshl x3 5))], (I, L, R, Y), 0, 0) (fun _ => rfl) ?_
        have hlt2 : x2 < n := by by_cases e : x2 < n; exact e; exfalso; omega
        have hq3 := hz20 ⟨by omega, by omega⟩
        rw [show x2.toNat = c.1 + x5.toNat by omega] at hq3
        have hcur : tk_lt (s (c.1 + x5.toNat)) = true := tk_lt_t.mpr (by omega)
        refine yi_D_isub rfl (z23 - 97) (yi_wn (by omega) (by omega)) ?_
        refine yi_D_run 1 (38, [(5, .inl x5), (3, .inr (.inl x3)), (2, .inl x2), (0, .inr (.inr (some 12))), (1, .inl x)], [.inl 1, .inl (z23 - 97), .inr (.inl (yi_lshl x3 5))], (I, L, R, Y), 0, 0) (fun _ => rfl) ?_
        refine yi_D_iadd rfl ((z23 - 97) + 1) (yi_wn (by omega) (by omega)) ?_
        have hnv : x5 + 1 ≤ 8 → yi_lor (yi_lshl x3 5) ((z23 - 97) + 1) = sp_e 32 (tk_w s c.1 (x5 + 1).toNat) := by
          intro h8
          have hb7 := tk_wb (b := 32) (by omega) (s := s) (k := c.1) (m := x5.toNat) (by omega) ha
          rw [← hv (by omega)] at hb7
          rw [yi_lor5 (by omega) (by omega), show (x5 + 1).toNat = x5.toNat + 1 by omega]
          show _ = 32 * sp_e 32 (tk_w s c.1 x5.toNat) + ((s (c.1 + x5.toNat) - 96).toNat : Int)
          have hzc := tk_lt_t.mp hcur
          rw [← hv (by omega)]
          omega
        refine yi_D_run 3 (42, [(3, .inr (.inl (yi_lor (yi_lshl x3 5) ((z23 - 97) + 1)))), (5, .inl x5), (2, .inl x2), (0, .inr (.inr (some 12))), (1, .inl x)], [], (I, L, R, Y), 0, 0) (fun _ => rfl) ?_
        refine yi_D_iinc [(2, .inl (x2 + 1)), (3, .inr (.inl (yi_lor (yi_lshl x3 5) ((z23 - 97) + 1)))), (5, .inl x5), (0, .inr (.inr (some 12))), (1, .inl x)] rfl rfl rfl (by rw [show yi_w (x2 + 1) = x2 + 1 from (yi_wn (by omega) (by omega)).trans (by omega)]; rfl) ?_
        refine yi_D_iinc [(5, .inl (x5 + 1)), (2, .inl (x2 + 1)), (3, .inr (.inl (yi_lor (yi_lshl x3 5) ((z23 - 97) + 1)))), (0, .inr (.inr (some 12))), (1, .inl x)] rfl rfl rfl (by rw [show yi_w (x5 + 1) = x5 + 1 from (yi_wn (by omega) (by omega)).trans (by omega)]; rfl) ?_
        refine yi_D_run 1 (7, [(5, .inl (x5 + 1)), (2, .inl (x2 + 1)), (3, .inr (.inl (yi_lor (yi_lshl x3 5) ((z23 - 97) + 1)))), (0, .inr (.inr (some 12))), (1, .inl x)], [], (I, L, R, Y), 0, 0) (fun _ => rfl) ?_
        refine yi_D_al (al := [(5, .inl (x5 + 1)), (3, .inr (.inl (yi_lor (yi_lshl x3 5) ((z23 - 97) + 1)))), (2, .inl (x2 + 1)), (0, .inr (.inr (some 12))), (1, .inl x)]) (show ([5, 3, 2, 0, 1] : List Nat).Nodup by decide) (show ([5, 2, 3, 0, 1] : List Nat).Nodup by decide) (yi_mc (List.mem_of_getElem? (i := 0) rfl) (yi_mc (List.mem_of_getElem? (i := 2) rfl) (yi_mc (List.mem_of_getElem? (i := 1) rfl) (yi_mc (List.mem_of_getElem? (i := 3) rfl) (yi_mc (List.mem_of_getElem? (i := 4) rfl) yi_mn))))) ?_
        exact yi_D_mono (ih7 (by omega) (x5 + 1) (yi_lor (yi_lshl x3 5) ((z23 - 97) + 1)) (x2 + 1) (by omega) (fun j hj => by by_cases e : j < x5.toNat; exact ha j e; rw [show j = x5.toNat by omega]; exact hcur) hnv) (by omega)
      · show yi_D zi_Ms d zi_m295 j7 (23, [(5, .inl x5), (3, .inr (.inl x3)), (2, .inl x2), (0, .inr (.inr (some 12))), (1, .inl x)], [.inl 0], (I, L, R, Y), 0, 0) _
        refine yi_D_if1 true rfl (by decide) ?_
        have hend : c.1 + x5.toNat = n ∨ tk_lt (s (c.1 + x5.toNat)) = false := by
          by_cases hq : x2 < n
          · right
            have hq3 := hz20 ⟨by omega, by omega⟩
            rw [show x2.toNat = c.1 + x5.toNat by omega] at hq3
            exact tk_lt_f (by omega)
          · left
            omega
        refine yi_D_run 3 (54, [(5, .inl x5), (3, .inr (.inl x3)), (2, .inl x2), (0, .inr (.inr (some 12))), (1, .inl x)], [.inl x, .inl x2, .inr (.inr (some 12))], (I, L, R, Y), 0, 0) (fun _ => rfl) ?_
        refine yi_D_isub rfl (x2 - x) (yi_wn (by omega) (by omega)) ?_
        refine yi_D_run 1 (57, [(5, .inl x5), (3, .inr (.inl x3)), (2, .inl x2), (0, .inr (.inr (some 12))), (1, .inl x)], [.inl 8, .inl (x2 - x), .inr (.inr (some 12))], (I, L, R, Y), 0, 0) (fun _ => rfl) ?_
        by_cases h26 : (x2 - x) ≤ 8
        · refine yi_D_if2 true rfl (yi_le_t h26) ?_
          refine yi_D_run 2 (66, [(5, .inl x5), (3, .inr (.inl x3)), (2, .inl x2), (0, .inr (.inr (some 12))), (1, .inl x)], [.inr (.inl x3), .inr (.inr (some 12)), .inr (.inr (some 12))], (I, L, R, Y), 0, 0) (fun _ => rfl) ?_
          have hwr : sp_WR x3 (sp_e 37 (tk_w s c.1 x5.toNat)) := ⟨tk_w s c.1 x5.toNat, by rw [tk_w_l]; omega, tk_w_b _ ha, hv (by omega), rfl⟩
          refine yi_D_callv rfl (p_wordKind hX hk (w := sp_e 37 (tk_w s c.1 x5.toNat)) hwr) ?_
          rintro _ rfl
          show yi_D zi_Ms d zi_m295 j7 (69, [(5, .inl x5), (3, .inr (.inl x3)), (2, .inl x2), (0, .inr (.inr (some 12))), (1, .inl x)], [.inl (sp_wk (sp_e 37 (tk_w s c.1 x5.toNat))), .inr (.inr (some 12))], (I, L, R, Y), 0, 0) _
          refine yi_D_run 2 (71, [(5, .inl x5), (3, .inr (.inl x3)), (2, .inl x2), (0, .inr (.inr (some 12))), (1, .inl x)], [.inr (.inl x3), .inl x, .inl (sp_wk (sp_e 37 (tk_w s c.1 x5.toNat))), .inr (.inr (some 12))], (I, L, R, Y), 0, 0) (fun _ => rfl) ?_
          refine yi_D_callv rfl (p_addToken hX (t := c.2.1) (by first | exact h6 | exact h6) (by omega)) ?_
          rintro _ ⟨I27, L28, rfl, e29, e30, e31, e32, f33, f34⟩
          show yi_D zi_Ms d zi_m295 j7 (74, [(5, .inl x5), (3, .inr (.inl x3)), (2, .inl x2), (0, .inr (.inr (some 12))), (1, .inl x)], [], (I27, L28, R, Y), 0, 0) _
          refine yi_D_run 1 (75, [(5, .inl x5), (3, .inr (.inl x3)), (2, .inl x2), (0, .inr (.inr (some 12))), (1, .inl x)], [.inl x2], (I27, L28, R, Y), 0, 0) (fun _ => rfl) ?_
          refine yi_D_reti rfl ?_
          have hst : tk_st s n c = (tk_nx s n c.1, c.2.1 + 1, sp_up c.2.2.1 c.2.1 (tk_K s n c.1), sp_up c.2.2.2.1 c.2.1 c.1, sp_up c.2.2.2.2 c.2.1 (tk_V s n c.1)) := by unfold tk_st; rw [if_pos (by omega), if_neg (by omega)]
          have hp1 : 0 ≤ (c.1 : Int) ∧ (c.1 : Int) ≤ 1000 := by omega
          have htk := tk_nx_w (s := s) (n := n) (k := c.1) (m := x5.toNat) (by omega) hlt (by omega) ha hend
          have hm1 : cw_1 (sp_wk (sp_e 37 (tk_w s c.1 x5.toNat))) c.1 (x3) (tk_K s n c.1) c.1 (tk_V s n c.1) := by
            rw [htk.2.1, htk.2.2]
            rw [if_neg (by omega), if_neg (by omega)]
            exact cw_1w hp1 hwr
          have hfin := cw_W_add hK hst (e29) ((e30).trans (by omega)) e31 hm1 f33 f34
          have hnx : (tk_st s n c).1 = tk_nx s n c.1 := by rw [hst]
          have hni : (tk_st s n c).2.1 = c.2.1 + 1 := by rw [hst]
          exact ⟨_, _, by rw [show x2 = ((tk_st s n c).1 : Int) by omega], hfin.1, by rw [e32, hni]; omega, hfin.2⟩
        · refine yi_D_if2 false rfl (yi_le_f h26) ?_
          refine yi_D_run 4 (71, [(5, .inl x5), (3, .inr (.inl x3)), (2, .inl x2), (0, .inr (.inr (some 12))), (1, .inl x)], [.inr (.inl x3), .inl x, .inl 1, .inr (.inr (some 12))], (I, L, R, Y), 0, 0) (fun _ => rfl) ?_
          refine yi_D_callv rfl (p_addToken hX (t := c.2.1) (by first | exact h6 | exact h6) (by omega)) ?_
          rintro _ ⟨I35, L36, rfl, e37, e38, e39, e40, f41, f42⟩
          show yi_D zi_Ms d zi_m295 j7 (74, [(5, .inl x5), (3, .inr (.inl x3)), (2, .inl x2), (0, .inr (.inr (some 12))), (1, .inl x)], [], (I35, L36, R, Y), 0, 0) _
          refine yi_D_run 1 (75, [(5, .inl x5), (3, .inr (.inl x3)), (2, .inl x2), (0, .inr (.inr (some 12))), (1, .inl x)], [.inl x2], (I35, L36, R, Y), 0, 0) (fun _ => rfl) ?_
          refine yi_D_reti rfl ?_
          have hst : tk_st s n c = (tk_nx s n c.1, c.2.1 + 1, sp_up c.2.2.1 c.2.1 (tk_K s n c.1), sp_up c.2.2.2.1 c.2.1 c.1, sp_up c.2.2.2.2 c.2.1 (tk_V s n c.1)) := by unfold tk_st; rw [if_pos (by omega), if_neg (by omega)]
          have hp1 : 0 ≤ (c.1 : Int) ∧ (c.1 : Int) ≤ 1000 := by omega
          have htk := tk_nx_w (s := s) (n := n) (k := c.1) (m := x5.toNat) (by omega) hlt (by omega) ha hend
          have hm1 : cw_1 (1) c.1 (x3) (tk_K s n c.1) c.1 (tk_V s n c.1) := by
            rw [htk.2.1, htk.2.2]
            rw [if_pos (by omega), if_pos (by omega)]
            exact cw_1b hp1
          have hfin := cw_W_add hK hst (e37) ((e38).trans (by omega)) e39 hm1 f41 f42
          have hnx : (tk_st s n c).1 = tk_nx s n c.1 := by rw [hst]
          have hni : (tk_st s n c).2.1 = c.2.1 + 1 := by rw [hst]
          exact ⟨_, _, by rw [show x2 = ((tk_st s n c).1 : Int) by omega], hfin.1, by rw [e40, hni]; omega, hfin.2⟩
  exact pt7 k (Nat.le_refl _) 0 0 x (by omega) (fun j hj => absurd hj (by omega)) (fun _ => rfl)
theorem p_cutNumber {d : Nat} {I L : Nat → Nat → Int} {R : Nat → Nat → Option Nat} {Y : (Nat → Nat) × (Nat → Nat) × Nat} {s : Nat → Int} {n : Nat} (hX : cs_S R Y ∧ True) (hn : n ≤ 1000) (h5 : I 12 5 = (n : Int)) (hs : ∀ i, i < n → I 13 i = s i) (hb : ∀ i, i < n → 0 ≤ s i ∧ s i ≤ 127) (hk : ∀ j : Nat, j < 29 → sp_WR (L 17 j) (sp_W37.getD j 0)) {c : tk_C} (hc : c.1 < n) (hci : c.2.1 ≤ c.1) (h6 : I 12 6 = (c.2.1 : Int)) (hK : cw_W I L c) {x : Int} (hx : x = (c.1 : Int)) (hl0 : tk_lt (s c.1) = false) (hdg : tk_dg (s c.1) = true) : yi_P zi_Ms d 293 [.inr (.inr (some 12)), .inl x] (I, L, R, Y) (fun r => ∃ I' L', r = (some (.inl ((tk_st s n c).1 : Int)), (I', L', R, Y), 0, 0) ∧ cw_W I' L' (tk_st s n c) ∧ I' 12 6 = ((tk_st s n c).2.1 : Int) ∧ cw_F I L I' L') := by
  refine yi_P_of (M := zi_m293) rfl (fun d k => ?_)
  have hdgv := tk_dg_t.mp hdg
  show yi_D zi_Ms d zi_m293 k (0, [(0, .inr (.inr (some 12))), (1, .inl x)], [], (I, L, R, Y), 0, 0) _
  refine yi_D_run 6 (7, [(4, .inl 0), (3, .inl 0), (2, .inl x), (0, .inr (.inr (some 12))), (1, .inl x)], [], (I, L, R, Y), 0, 0) (fun _ => rfl) ?_
  have pt7 : ∀ j7, j7 ≤ k → ∀ (x4 : Int) (x3 : Int) (x2 : Int), (x2 = x + x4 ∧ 0 ≤ x4 ∧ x4 ≤ 1000 ∧ x2 ≤ n) → (∀ j : Nat, j < x4.toNat → tk_dg (s (c.1 + j)) = true) → (x4 ≤ 4 → x3 = tk_n s c.1 x4.toNat) → yi_D zi_Ms d zi_m293 j7 (7, [(4, .inl x4), (3, .inl x3), (2, .inl x2), (0, .inr (.inr (some 12))), (1, .inl x)], [], (I, L, R, Y), 0, 0) (fun r => ∃ I' L', r = (some (.inl ((tk_st s n c).1 : Int)), (I', L', R, Y), 0, 0) ∧ cw_W I' L' (tk_st s n c) ∧ I' 12 6 = ((tk_st s n c).2.1 : Int) ∧ cw_F I L I' L') := by
    intro j7
    induction j7 with
    | zero => intros; exact yi_D_0
    | succ j7 ih7 =>
    intro hk7 x4 x3 x2 h2 ha hv
    refine yi_D_run1 1 (12, [(4, .inl x4), (3, .inl x3), (2, .inl x2), (0, .inr (.inr (some 12))), (1, .inl x)], [.inl 1000, .inl x4], (I, L, R, Y), 0, 0) (fun _ => rfl) ?_
    by_cases h1 : 1000 ≤ x4
    · refine yi_D_if2 true rfl (yi_ge_t h1) ?_
      have hend : c.1 + x4.toNat = n ∨ tk_dg (s (c.1 + x4.toNat)) = false := by
        by_cases hq : x2 < n
        · right
          exfalso; omega
        · left
          omega
      refine yi_D_run 3 (52, [(4, .inl x4), (3, .inl x3), (2, .inl x2), (0, .inr (.inr (some 12))), (1, .inl x)], [.inl x, .inl x2, .inr (.inr (some 12))], (I, L, R, Y), 0, 0) (fun _ => rfl) ?_
      refine yi_D_isub rfl (x2 - x) (yi_wn (by omega) (by omega)) ?_
      refine yi_D_run 1 (54, [(4, .inl x4), (3, .inl x3), (2, .inl x2), (0, .inr (.inr (some 12))), (1, .inl x)], [.inl 4, .inl (x2 - x), .inr (.inr (some 12))], (I, L, R, Y), 0, 0) (fun _ => rfl) ?_
      by_cases h2 : (x2 - x) ≤ 4
      · refine yi_D_if2 true rfl (yi_le_t h2) ?_
        refine yi_D_run 4 (65, [(4, .inl x4), (3, .inl x3), (2, .inl x2), (0, .inr (.inr (some 12))), (1, .inl x)], [.inr (.inl x3), .inl x, .inl 2, .inr (.inr (some 12))], (I, L, R, Y), 0, 0) (fun _ => rfl) ?_
        refine yi_D_callv rfl (p_addToken hX (t := c.2.1) (by first | exact h6 | exact h6) (by omega)) ?_
        rintro _ ⟨I3, L4, rfl, e5, e6, e7, e8, f9, f10⟩
        show yi_D zi_Ms d zi_m293 j7 (68, [(4, .inl x4), (3, .inl x3), (2, .inl x2), (0, .inr (.inr (some 12))), (1, .inl x)], [], (I3, L4, R, Y), 0, 0) _
        refine yi_D_run 1 (69, [(4, .inl x4), (3, .inl x3), (2, .inl x2), (0, .inr (.inr (some 12))), (1, .inl x)], [.inl x2], (I3, L4, R, Y), 0, 0) (fun _ => rfl) ?_
        refine yi_D_reti rfl ?_
        have hst : tk_st s n c = (tk_nx s n c.1, c.2.1 + 1, sp_up c.2.2.1 c.2.1 (tk_K s n c.1), sp_up c.2.2.2.1 c.2.1 c.1, sp_up c.2.2.2.2 c.2.1 (tk_V s n c.1)) := by unfold tk_st; rw [if_pos (by omega), if_neg (by omega)]
        have hp1 : 0 ≤ (c.1 : Int) ∧ (c.1 : Int) ≤ 1000 := by omega
        have htk := tk_nx_d (s := s) (n := n) (k := c.1) (m := x4.toNat) (by omega) hl0 hdg (by omega) ha hend
        have hm1 : cw_1 (2) c.1 (x3) (tk_K s n c.1) c.1 (tk_V s n c.1) := by
          rw [htk.2.1, htk.2.2]
          rw [if_neg (by omega), if_neg (by omega), hv (by omega)]
          exact cw_1n hp1 (tk_nb4 (by omega) ha)
        have hfin := cw_W_add hK hst (e5) ((e6).trans (by omega)) e7 hm1 f9 f10
        have hnx : (tk_st s n c).1 = tk_nx s n c.1 := by rw [hst]
        have hni : (tk_st s n c).2.1 = c.2.1 + 1 := by rw [hst]
        exact ⟨_, _, by rw [show x2 = ((tk_st s n c).1 : Int) by omega], hfin.1, by rw [e8, hni]; omega, hfin.2⟩
      · refine yi_D_if2 false rfl (yi_le_f h2) ?_
        refine yi_D_run 5 (65, [(4, .inl x4), (3, .inl x3), (2, .inl x2), (0, .inr (.inr (some 12))), (1, .inl x)], [.inr (.inl x3), .inl x, .inl 1, .inr (.inr (some 12))], (I, L, R, Y), 0, 0) (fun _ => rfl) ?_
        refine yi_D_callv rfl (p_addToken hX (t := c.2.1) (by first | exact h6 | exact h6) (by omega)) ?_
        rintro _ ⟨I11, L12, rfl, e13, e14, e15, e16, f17, f18⟩
        show yi_D zi_Ms d zi_m293 j7 (68, [(4, .inl x4), (3, .inl x3), (2, .inl x2), (0, .inr (.inr (some 12))), (1, .inl x)], [], (I11, L12, R, Y), 0, 0) _
        refine yi_D_run 1 (69, [(4, .inl x4), (3, .inl x3), (2, .inl x2), (0, .inr (.inr (some 12))), (1, .inl x)], [.inl x2], (I11, L12, R, Y), 0, 0) (fun _ => rfl) ?_
        refine yi_D_reti rfl ?_
        have hst : tk_st s n c = (tk_nx s n c.1, c.2.1 + 1, sp_up c.2.2.1 c.2.1 (tk_K s n c.1), sp_up c.2.2.2.1 c.2.1 c.1, sp_up c.2.2.2.2 c.2.1 (tk_V s n c.1)) := by unfold tk_st; rw [if_pos (by omega), if_neg (by omega)]
        have hp1 : 0 ≤ (c.1 : Int) ∧ (c.1 : Int) ≤ 1000 := by omega
        have htk := tk_nx_d (s := s) (n := n) (k := c.1) (m := x4.toNat) (by omega) hl0 hdg (by omega) ha hend
        have hm1 : cw_1 (1) c.1 (x3) (tk_K s n c.1) c.1 (tk_V s n c.1) := by
          rw [htk.2.1, htk.2.2]
          rw [if_pos (by omega), if_pos (by omega)]
          exact cw_1b hp1
        have hfin := cw_W_add hK hst (e13) ((e14).trans (by omega)) e15 hm1 f17 f18
        have hnx : (tk_st s n c).1 = tk_nx s n c.1 := by rw [hst]
        have hni : (tk_st s n c).2.1 = c.2.1 + 1 := by rw [hst]
        exact ⟨_, _, by rw [show x2 = ((tk_st s n c).1 : Int) by omega], hfin.1, by rw [e16, hni]; omega, hfin.2⟩
    · refine yi_D_if2 false rfl (yi_ge_f h1) ?_
      refine yi_D_run 2 (17, [(4, .inl x4), (3, .inl x3), (2, .inl x2), (0, .inr (.inr (some 12))), (1, .inl x)], [.inl x2, .inr (.inr (some 12))], (I, L, R, Y), 0, 0) (fun _ => rfl) ?_
      refine yi_D_callv rfl (p_signAt hX hn h5 hs) ?_
      rintro _ ⟨z19, rfl, hz20, hy21⟩
      show yi_D zi_Ms d zi_m293 j7 (20, [(4, .inl x4), (3, .inl x3), (2, .inl x2), (0, .inr (.inr (some 12))), (1, .inl x)], [.inl z19], (I, L, R, Y), 0, 0) _
      refine yi_D_calls rfl (p_isDigit) ?_
      rintro _ (⟨c22, rfl⟩ | ⟨c22, rfl⟩)
      · show yi_D zi_Ms d zi_m293 j7 (23, [(4, .inl x4), (3, .inl x3), (2, .inl x2), (0, .inr (.inr (some 12))), (1, .inl x)], [.inl 1], (I, L, R, Y), 0, 0) _
        refine yi_D_if1 false rfl (by decide) ?_
        refine yi_D_run 5 (32, [(4, .inl x4), (3, .inl x3), (2, .inl x2), (0, .inr (.inr (some 12))), (1, .inl x)], [.inl x2, .inr (.inr (some 12)), .inl (yi_w (x3 * 10))], (I, L, R, Y), 0, 0) (fun _ => rfl) ?_
        refine yi_D_callv rfl (p_signAt hX hn h5 hs) ?_
        rintro _ ⟨z23, rfl, hz24, hy25⟩
        show yi_D zi_Ms d zi_m293 j7 (35, [(4, .inl x4), (3, .inl x3), (2, .inl x2), (0, .inr (.inr (some 12))), (1, .inl x)], [.inl z23, .inl (yi_w (x3 * 10))], (I, L, R, Y), 0, 0) _
        have hlt2 : x2 < n := by by_cases e : x2 < n; exact e; exfalso; omega
        have hq3 := hz20 ⟨by omega, by omega⟩
        rw [show x2.toNat = c.1 + x4.toNat by omega] at hq3
        have hcur : tk_dg (s (c.1 + x4.toNat)) = true := tk_dg_t.mpr (by omega)
        have hnv : x4 + 1 ≤ 4 → yi_w (yi_w (yi_w (x3 * 10) + z23) - 48) = tk_n s c.1 (x4 + 1).toNat := by
          intro h8
          have hb7 := tk_nb4 (s := s) (k := c.1) (m := x4.toNat) (by omega) ha
          rw [← hv (by omega)] at hb7
          rw [show (x4 + 1).toNat = x4.toNat + 1 by omega]
          show _ = 10 * tk_n s c.1 x4.toNat + (s (c.1 + x4.toNat) - 48)
          have hzc := tk_dg_t.mp hcur
          rw [← hv (by omega)]
          unfold yi_w
          omega
        refine yi_D_run 4 (40, [(3, .inl (yi_w ((yi_w ((yi_w (x3 * 10)) + z23)) - 48))), (4, .inl x4), (2, .inl x2), (0, .inr (.inr (some 12))), (1, .inl x)], [], (I, L, R, Y), 0, 0) (fun _ => rfl) ?_
        refine yi_D_iinc [(2, .inl (x2 + 1)), (3, .inl (yi_w ((yi_w ((yi_w (x3 * 10)) + z23)) - 48))), (4, .inl x4), (0, .inr (.inr (some 12))), (1, .inl x)] rfl rfl rfl (by rw [show yi_w (x2 + 1) = x2 + 1 from (yi_wn (by omega) (by omega)).trans (by omega)]; rfl) ?_
        refine yi_D_iinc [(4, .inl (x4 + 1)), (2, .inl (x2 + 1)), (3, .inl (yi_w ((yi_w ((yi_w (x3 * 10)) + z23)) - 48))), (0, .inr (.inr (some 12))), (1, .inl x)] rfl rfl rfl (by rw [show yi_w (x4 + 1) = x4 + 1 from (yi_wn (by omega) (by omega)).trans (by omega)]; rfl) ?_
        refine yi_D_run 1 (7, [(4, .inl (x4 + 1)), (2, .inl (x2 + 1)), (3, .inl (yi_w ((yi_w ((yi_w (x3 * 10)) + z23)) - 48))), (0, .inr (.inr (some 12))), (1, .inl x)], [], (I, L, R, Y), 0, 0) (fun _ => rfl) ?_
        refine yi_D_al (al := [(4, .inl (x4 + 1)), (3, .inl (yi_w ((yi_w ((yi_w (x3 * 10)) + z23)) - 48))), (2, .inl (x2 + 1)), (0, .inr (.inr (some 12))), (1, .inl x)]) (show ([4, 3, 2, 0, 1] : List Nat).Nodup by decide) (show ([4, 2, 3, 0, 1] : List Nat).Nodup by decide) (yi_mc (List.mem_of_getElem? (i := 0) rfl) (yi_mc (List.mem_of_getElem? (i := 2) rfl) (yi_mc (List.mem_of_getElem? (i := 1) rfl) (yi_mc (List.mem_of_getElem? (i := 3) rfl) (yi_mc (List.mem_of_getElem? (i := 4) rfl) yi_mn))))) ?_
        exact yi_D_mono (ih7 (by omega) (x4 + 1) (yi_w ((yi_w ((yi_w (x3 * 10)) + z23)) - 48)) (x2 + 1) (by omega) (fun j hj => by by_cases e : j < x4.toNat; exact ha j e; rw [show j = x4.toNat by omega]; exact hcur) hnv) (by omega)
      · show yi_D zi_Ms d zi_m293 j7 (23, [(4, .inl x4), (3, .inl x3), (2, .inl x2), (0, .inr (.inr (some 12))), (1, .inl x)], [.inl 0], (I, L, R, Y), 0, 0) _
        refine yi_D_if1 true rfl (by decide) ?_
        have hend : c.1 + x4.toNat = n ∨ tk_dg (s (c.1 + x4.toNat)) = false := by
          by_cases hq : x2 < n
          · right
            have hq3 := hz20 ⟨by omega, by omega⟩
            rw [show x2.toNat = c.1 + x4.toNat by omega] at hq3
            exact tk_dg_f (by omega)
          · left
            omega
        refine yi_D_run 3 (52, [(4, .inl x4), (3, .inl x3), (2, .inl x2), (0, .inr (.inr (some 12))), (1, .inl x)], [.inl x, .inl x2, .inr (.inr (some 12))], (I, L, R, Y), 0, 0) (fun _ => rfl) ?_
        refine yi_D_isub rfl (x2 - x) (yi_wn (by omega) (by omega)) ?_
        refine yi_D_run 1 (54, [(4, .inl x4), (3, .inl x3), (2, .inl x2), (0, .inr (.inr (some 12))), (1, .inl x)], [.inl 4, .inl (x2 - x), .inr (.inr (some 12))], (I, L, R, Y), 0, 0) (fun _ => rfl) ?_
        by_cases h26 : (x2 - x) ≤ 4
        · refine yi_D_if2 true rfl (yi_le_t h26) ?_
          refine yi_D_run 4 (65, [(4, .inl x4), (3, .inl x3), (2, .inl x2), (0, .inr (.inr (some 12))), (1, .inl x)], [.inr (.inl x3), .inl x, .inl 2, .inr (.inr (some 12))], (I, L, R, Y), 0, 0) (fun _ => rfl) ?_
          refine yi_D_callv rfl (p_addToken hX (t := c.2.1) (by first | exact h6 | exact h6) (by omega)) ?_
          rintro _ ⟨I27, L28, rfl, e29, e30, e31, e32, f33, f34⟩
          show yi_D zi_Ms d zi_m293 j7 (68, [(4, .inl x4), (3, .inl x3), (2, .inl x2), (0, .inr (.inr (some 12))), (1, .inl x)], [], (I27, L28, R, Y), 0, 0) _
          refine yi_D_run 1 (69, [(4, .inl x4), (3, .inl x3), (2, .inl x2), (0, .inr (.inr (some 12))), (1, .inl x)], [.inl x2], (I27, L28, R, Y), 0, 0) (fun _ => rfl) ?_
          refine yi_D_reti rfl ?_
          have hst : tk_st s n c = (tk_nx s n c.1, c.2.1 + 1, sp_up c.2.2.1 c.2.1 (tk_K s n c.1), sp_up c.2.2.2.1 c.2.1 c.1, sp_up c.2.2.2.2 c.2.1 (tk_V s n c.1)) := by unfold tk_st; rw [if_pos (by omega), if_neg (by omega)]
          have hp1 : 0 ≤ (c.1 : Int) ∧ (c.1 : Int) ≤ 1000 := by omega
          have htk := tk_nx_d (s := s) (n := n) (k := c.1) (m := x4.toNat) (by omega) hl0 hdg (by omega) ha hend
          have hm1 : cw_1 (2) c.1 (x3) (tk_K s n c.1) c.1 (tk_V s n c.1) := by
            rw [htk.2.1, htk.2.2]
            rw [if_neg (by omega), if_neg (by omega), hv (by omega)]
            exact cw_1n hp1 (tk_nb4 (by omega) ha)
          have hfin := cw_W_add hK hst (e29) ((e30).trans (by omega)) e31 hm1 f33 f34
          have hnx : (tk_st s n c).1 = tk_nx s n c.1 := by rw [hst]
          have hni : (tk_st s n c).2.1 = c.2.1 + 1 := by rw [hst]
          exact ⟨_, _, by rw [show x2 = ((tk_st s n c).1 : Int) by omega], hfin.1, by rw [e32, hni]; omega, hfin.2⟩
        · refine yi_D_if2 false rfl (yi_le_f h26) ?_
          refine yi_D_run 5 (65, [(4, .inl x4), (3, .inl x3), (2, .inl x2), (0, .inr (.inr (some 12))), (1, .inl x)], [.inr (.inl x3), .inl x, .inl 1, .inr (.inr (some 12))], (I, L, R, Y), 0, 0) (fun _ => rfl) ?_
          refine yi_D_callv rfl (p_addToken hX (t := c.2.1) (by first | exact h6 | exact h6) (by omega)) ?_
          rintro _ ⟨I35, L36, rfl, e37, e38, e39, e40, f41, f42⟩
          show yi_D zi_Ms d zi_m293 j7 (68, [(4, .inl x4), (3, .inl x3), (2, .inl x2), (0, .inr (.inr (some 12))), (1, .inl x)], [], (I35, L36, R, Y), 0, 0) _
          refine yi_D_run 1 (69, [(4, .inl x4), (3, .inl x3), (2, .inl x2), (0, .inr (.inr (some 12))), (1, .inl x)], [.inl x2], (I35, L36, R, Y), 0, 0) (fun _ => rfl) ?_
          refine yi_D_reti rfl ?_
          have hst : tk_st s n c = (tk_nx s n c.1, c.2.1 + 1, sp_up c.2.2.1 c.2.1 (tk_K s n c.1), sp_up c.2.2.2.1 c.2.1 c.1, sp_up c.2.2.2.2 c.2.1 (tk_V s n c.1)) := by unfold tk_st; rw [if_pos (by omega), if_neg (by omega)]
          have hp1 : 0 ≤ (c.1 : Int) ∧ (c.1 : Int) ≤ 1000 := by omega
          have htk := tk_nx_d (s := s) (n := n) (k := c.1) (m := x4.toNat) (by omega) hl0 hdg (by omega) ha hend
          have hm1 : cw_1 (1) c.1 (x3) (tk_K s n c.1) c.1 (tk_V s n c.1) := by
            rw [htk.2.1, htk.2.2]
            rw [if_pos (by omega), if_pos (by omega)]
            exact cw_1b hp1
          have hfin := cw_W_add hK hst (e37) ((e38).trans (by omega)) e39 hm1 f41 f42
          have hnx : (tk_st s n c).1 = tk_nx s n c.1 := by rw [hst]
          have hni : (tk_st s n c).2.1 = c.2.1 + 1 := by rw [hst]
          exact ⟨_, _, by rw [show x2 = ((tk_st s n c).1 : Int) by omega], hfin.1, by rw [e40, hni]; omega, hfin.2⟩
  exact pt7 k (Nat.le_refl _) 0 0 x (by omega) (fun j hj => absurd hj (by omega)) (fun _ => rfl)
theorem p_cutToken {d : Nat} {I L : Nat → Nat → Int} {R : Nat → Nat → Option Nat} {Y : (Nat → Nat) × (Nat → Nat) × Nat} {s : Nat → Int} {n : Nat} (hX : cs_S R Y ∧ True) (hn : n ≤ 1000) (h5 : I 12 5 = (n : Int)) (hs : ∀ i, i < n → I 13 i = s i) (hb : ∀ i, i < n → 0 ≤ s i ∧ s i ≤ 127) (hk : ∀ j : Nat, j < 29 → sp_WR (L 17 j) (sp_W37.getD j 0)) {c : tk_C} (hc : c.1 < n) (hci : c.2.1 ≤ c.1) (h6 : I 12 6 = (c.2.1 : Int)) (hK : cw_W I L c) {x : Int} (hx : x = (c.1 : Int)) : yi_P zi_Ms d 294 [.inr (.inr (some 12)), .inl x] (I, L, R, Y) (fun r => ∃ I' L', r = (some (.inl ((tk_st s n c).1 : Int)), (I', L', R, Y), 0, 0) ∧ cw_W I' L' (tk_st s n c) ∧ I' 12 6 = ((tk_st s n c).2.1 : Int) ∧ cw_F I L I' L') := by
  refine yi_P_of (M := zi_m294) rfl (fun d k => ?_)
  show yi_D zi_Ms d zi_m294 k (0, [(0, .inr (.inr (some 12))), (1, .inl x)], [], (I, L, R, Y), 0, 0) _
  refine yi_D_run 2 (2, [(0, .inr (.inr (some 12))), (1, .inl x)], [.inl x, .inr (.inr (some 12))], (I, L, R, Y), 0, 0) (fun _ => rfl) ?_
  refine yi_D_callv rfl (p_signAt hX hn h5 hs) ?_
  rintro _ ⟨z1, rfl, hz2, hy3⟩
  show yi_D zi_Ms d zi_m294 k (5, [(0, .inr (.inr (some 12))), (1, .inl x)], [.inl z1], (I, L, R, Y), 0, 0) _
  have hsc := hz2 ⟨by omega, by omega⟩
  rw [show x.toNat = c.1 by omega] at hsc
  have hbc := hb c.1 hc
  refine yi_D_run 2 (7, [(2, .inl z1), (0, .inr (.inr (some 12))), (1, .inl x)], [.inl z1], (I, L, R, Y), 0, 0) (fun _ => rfl) ?_
  refine yi_D_calls rfl (p_isLetter) ?_
  rintro _ (⟨c4, rfl⟩ | ⟨c4, rfl⟩)
  · show yi_D zi_Ms d zi_m294 k (10, [(2, .inl z1), (0, .inr (.inr (some 12))), (1, .inl x)], [.inl 1], (I, L, R, Y), 0, 0) _
    refine yi_D_if1 false rfl (by decide) ?_
    refine yi_D_run 2 (15, [(2, .inl z1), (0, .inr (.inr (some 12))), (1, .inl x)], [.inl x, .inr (.inr (some 12))], (I, L, R, Y), 0, 0) (fun _ => rfl) ?_
    refine yi_D_callv rfl (p_cutWord hX hn h5 hs hb hk hc hci h6 hK hx (tk_lt_t.mpr (by omega))) ?_
    rintro _ ⟨I5, L6, rfl, hK7, h68, hF9⟩
    show yi_D zi_Ms d zi_m294 k (18, [(2, .inl z1), (0, .inr (.inr (some 12))), (1, .inl x)], [.inl ((tk_st s n c).1 : Int)], (I5, L6, R, Y), 0, 0) _
    refine yi_D_reti rfl ?_
    exact ⟨_, _, rfl, hK7, h68, hF9⟩
  · show yi_D zi_Ms d zi_m294 k (10, [(2, .inl z1), (0, .inr (.inr (some 12))), (1, .inl x)], [.inl 0], (I, L, R, Y), 0, 0) _
    refine yi_D_if1 true rfl (by decide) ?_
    refine yi_D_run 1 (20, [(2, .inl z1), (0, .inr (.inr (some 12))), (1, .inl x)], [.inl z1], (I, L, R, Y), 0, 0) (fun _ => rfl) ?_
    refine yi_D_calls rfl (p_isDigit) ?_
    rintro _ (⟨c10, rfl⟩ | ⟨c10, rfl⟩)
    · show yi_D zi_Ms d zi_m294 k (23, [(2, .inl z1), (0, .inr (.inr (some 12))), (1, .inl x)], [.inl 1], (I, L, R, Y), 0, 0) _
      refine yi_D_if1 false rfl (by decide) ?_
      refine yi_D_run 2 (28, [(2, .inl z1), (0, .inr (.inr (some 12))), (1, .inl x)], [.inl x, .inr (.inr (some 12))], (I, L, R, Y), 0, 0) (fun _ => rfl) ?_
      refine yi_D_callv rfl (p_cutNumber hX hn h5 hs hb hk hc hci h6 hK hx (tk_lt_f (by omega)) (tk_dg_t.mpr (by omega))) ?_
      rintro _ ⟨I11, L12, rfl, hK13, h614, hF15⟩
      show yi_D zi_Ms d zi_m294 k (31, [(2, .inl z1), (0, .inr (.inr (some 12))), (1, .inl x)], [.inl ((tk_st s n c).1 : Int)], (I11, L12, R, Y), 0, 0) _
      refine yi_D_reti rfl ?_
      exact ⟨_, _, rfl, hK13, h614, hF15⟩
    · show yi_D zi_Ms d zi_m294 k (23, [(2, .inl z1), (0, .inr (.inr (some 12))), (1, .inl x)], [.inl 0], (I, L, R, Y), 0, 0) _
      refine yi_D_if1 true rfl (by decide) ?_
      refine yi_D_run 2 (35, [(2, .inl z1), (0, .inr (.inr (some 12))), (1, .inl x)], [.inl 32, .inl z1], (I, L, R, Y), 0, 0) (fun _ => rfl) ?_
      by_cases h16 : z1 = 32
      · refine yi_D_if2 true rfl (yi_eq_t h16) ?_
        refine yi_D_run 2 (66, [(2, .inl z1), (0, .inr (.inr (some 12))), (1, .inl x)], [.inl 1, .inl x], (I, L, R, Y), 0, 0) (fun _ => rfl) ?_
        refine yi_D_iadd rfl (x + 1) (yi_wn (by omega) (by omega)) ?_
        refine yi_D_reti rfl ?_
        have hst : tk_st s n c = (c.1 + 1, c.2) := by unfold tk_st; rw [if_pos (by omega), if_pos (by omega)]
        have hnx : (tk_st s n c).1 = c.1 + 1 := by rw [hst]
        exact ⟨_, _, by rw [show x + 1 = ((tk_st s n c).1 : Int) by omega], by rw [hst]; exact hK, by rw [hst]; exact h6, cw_F_r _ _⟩
      · refine yi_D_if2 false rfl (yi_eq_f h16) ?_
        refine yi_D_run 2 (41, [(2, .inl z1), (0, .inr (.inr (some 12))), (1, .inl x)], [.inl 10, .inl z1], (I, L, R, Y), 0, 0) (fun _ => rfl) ?_
        by_cases h17 : z1 = 10
        · refine yi_D_if2 true rfl (yi_eq_t h17) ?_
          refine yi_D_run 2 (66, [(2, .inl z1), (0, .inr (.inr (some 12))), (1, .inl x)], [.inl 1, .inl x], (I, L, R, Y), 0, 0) (fun _ => rfl) ?_
          refine yi_D_iadd rfl (x + 1) (yi_wn (by omega) (by omega)) ?_
          refine yi_D_reti rfl ?_
          have hst : tk_st s n c = (c.1 + 1, c.2) := by unfold tk_st; rw [if_pos (by omega), if_pos (by omega)]
          have hnx : (tk_st s n c).1 = c.1 + 1 := by rw [hst]
          exact ⟨_, _, by rw [show x + 1 = ((tk_st s n c).1 : Int) by omega], by rw [hst]; exact hK, by rw [hst]; exact h6, cw_F_r _ _⟩
        · refine yi_D_if2 false rfl (yi_eq_f h17) ?_
          refine yi_D_run 3 (48, [(2, .inl z1), (0, .inr (.inr (some 12))), (1, .inl x)], [.inl z1, .inr (.inr (some 2)), .inr (.inr (some 12))], (I, L, R, Y), 0, 0) (fun _ => rfl) ?_
          refine yi_D_callv rfl (p_indexOf1 (c := z1) (by omega)) ?_
          rintro _ ⟨q18, rfl, hq1, hq2⟩
          rw [hsc] at hq1 hq2
          show yi_D zi_Ms d zi_m294 k (51, [(2, .inl z1), (0, .inr (.inr (some 12))), (1, .inl x)], [.inl q18, .inr (.inr (some 12))], (I, L, R, Y), 0, 0) _
          by_cases h19 : q18 < 0
          · refine yi_D_if1 true rfl (yi_lt_t h19) ?_
            refine yi_D_run 3 (61, [(2, .inl z1), (0, .inr (.inr (some 12))), (1, .inl x)], [.inr (.inl 0), .inl x, .inl 1, .inr (.inr (some 12))], (I, L, R, Y), 0, 0) (fun _ => rfl) ?_
            refine yi_D_callv rfl (p_addToken hX (t := c.2.1) (by first | exact h6 | exact h6) (by omega)) ?_
            rintro _ ⟨I20, L21, rfl, e22, e23, e24, e25, f26, f27⟩
            show yi_D zi_Ms d zi_m294 k (64, [(2, .inl z1), (0, .inr (.inr (some 12))), (1, .inl x)], [], (I20, L21, R, Y), 0, 0) _
            refine yi_D_run 2 (66, [(2, .inl z1), (0, .inr (.inr (some 12))), (1, .inl x)], [.inl 1, .inl x], (I20, L21, R, Y), 0, 0) (fun _ => rfl) ?_
            refine yi_D_iadd rfl (x + 1) (yi_wn (by omega) (by omega)) ?_
            refine yi_D_reti rfl ?_
            have hst : tk_st s n c = (tk_nx s n c.1, c.2.1 + 1, sp_up c.2.2.1 c.2.1 (tk_K s n c.1), sp_up c.2.2.2.1 c.2.1 c.1, sp_up c.2.2.2.2 c.2.1 (tk_V s n c.1)) := by unfold tk_st; rw [if_pos (by omega), if_neg (by omega)]
            have hp1 : 0 ≤ (c.1 : Int) ∧ (c.1 : Int) ≤ 1000 := by omega
            have htk := tk_nx_s (s := s) (n := n) (k := c.1) (tk_lt_f (by omega)) (tk_dg_f (by omega))
            have hm1 : cw_1 (1) c.1 (0) (tk_K s n c.1) c.1 (tk_V s n c.1) := by
              rw [htk.2.1, htk.2.2]
              have hsg : tk_sg (s c.1) = false := by
                cases e : tk_sg (s c.1) with
                | false => rfl
                | true => exact absurd (hq1 e) (by omega)
              rw [hsg, if_neg (by decide)]
              exact cw_1b hp1
            have hfin := cw_W_add hK hst (e22) ((e23).trans (by omega)) e24 hm1 f26 f27
            have hnx : (tk_st s n c).1 = tk_nx s n c.1 := by rw [hst]
            have hni : (tk_st s n c).2.1 = c.2.1 + 1 := by rw [hst]
            exact ⟨_, _, by rw [show x + 1 = ((tk_st s n c).1 : Int) by omega], hfin.1, by rw [e25, hni]; omega, hfin.2⟩
          · refine yi_D_if1 false rfl (yi_lt_f h19) ?_
            refine yi_D_run 4 (61, [(2, .inl z1), (0, .inr (.inr (some 12))), (1, .inl x)], [.inr (.inl 0), .inl x, .inl z1, .inr (.inr (some 12))], (I, L, R, Y), 0, 0) (fun _ => rfl) ?_
            refine yi_D_callv rfl (p_addToken hX (t := c.2.1) (by first | exact h6 | exact h6) (by omega)) ?_
            rintro _ ⟨I28, L29, rfl, e30, e31, e32, e33, f34, f35⟩
            show yi_D zi_Ms d zi_m294 k (64, [(2, .inl z1), (0, .inr (.inr (some 12))), (1, .inl x)], [], (I28, L29, R, Y), 0, 0) _
            refine yi_D_run 2 (66, [(2, .inl z1), (0, .inr (.inr (some 12))), (1, .inl x)], [.inl 1, .inl x], (I28, L29, R, Y), 0, 0) (fun _ => rfl) ?_
            refine yi_D_iadd rfl (x + 1) (yi_wn (by omega) (by omega)) ?_
            refine yi_D_reti rfl ?_
            have hst : tk_st s n c = (tk_nx s n c.1, c.2.1 + 1, sp_up c.2.2.1 c.2.1 (tk_K s n c.1), sp_up c.2.2.2.1 c.2.1 c.1, sp_up c.2.2.2.2 c.2.1 (tk_V s n c.1)) := by unfold tk_st; rw [if_pos (by omega), if_neg (by omega)]
            have hp1 : 0 ≤ (c.1 : Int) ∧ (c.1 : Int) ≤ 1000 := by omega
            have htk := tk_nx_s (s := s) (n := n) (k := c.1) (tk_lt_f (by omega)) (tk_dg_f (by omega))
            have hm1 : cw_1 (z1) c.1 (0) (tk_K s n c.1) c.1 (tk_V s n c.1) := by
              rw [htk.2.1, htk.2.2]
              have hsg : tk_sg (s c.1) = true := by
                cases e : tk_sg (s c.1) with
                | true => rfl
                | false => exact absurd (hq2 e) (by omega)
              have hsv := tk_sg_t.mp hsg
              rw [hsg, if_pos rfl, show z1 = s c.1 by omega]
              exact cw_1s hp1 (by omega)
            have hfin := cw_W_add hK hst (e30) ((e31).trans (by omega)) e32 hm1 f34 f35
            have hnx : (tk_st s n c).1 = tk_nx s n c.1 := by rw [hst]
            have hni : (tk_st s n c).2.1 = c.2.1 + 1 := by rw [hst]
            exact ⟨_, _, by rw [show x + 1 = ((tk_st s n c).1 : Int) by omega], hfin.1, by rw [e33, hni]; omega, hfin.2⟩
theorem p_cut {d : Nat} {I L : Nat → Nat → Int} {R : Nat → Nat → Option Nat} {Y : (Nat → Nat) × (Nat → Nat) × Nat} {s : Nat → Int} {n : Nat} (hX : cs_S R Y ∧ True) (hn : n ≤ 1000) (h5 : I 12 5 = (n : Int)) (hs : ∀ i, i < n → I 13 i = s i) (hb : ∀ i, i < n → 0 ≤ s i ∧ s i ≤ 127) (hk : ∀ j : Nat, j < 29 → sp_WR (L 17 j) (sp_W37.getD j 0)) (hw18 : L 18 0 = 72564293 ∧ L 18 1 = 1265842 ∧ L 18 2 = 671108) : yi_P zi_Ms d 292 [.inr (.inr (some 12))] (I, L, R, Y) (fun r => ∃ I' L', r = (none, (I', L', R, Y), 0, 0) ∧ cs_T I' L' (tk_Ks s n) (tk_Ps s n) (tk_Vs s n) (tk_te s n) ∧ I' 12 5 = 0 ∧ (∀ p k, ¬ (p = 12 ∧ (k = 5 ∨ k = 6)) ∧ p ≠ 14 ∧ p ≠ 15 → I' p k = I p k) ∧ (∀ p k, p ≠ 16 → L' p k = L p k)) := by
  refine yi_P_of (M := zi_m292) rfl (fun d k => ?_)
  show yi_D zi_Ms d zi_m292 k (0, [(0, .inr (.inr (some 12)))], [], (I, L, R, Y), 0, 0) _
  refine yi_D_run 2 (2, [(0, .inr (.inr (some 12)))], [.inl 0, .inr (.inr (some 12))], (I, L, R, Y), 0, 0) (fun _ => rfl) ?_
  refine yi_D_pi rfl (fun _ => ?_)
  generalize w2 : yi_u I 12 6 0 = I1
  refine yi_D_run 4 (9, [(2, .inl 0), (1, .inl 0), (0, .inr (.inr (some 12)))], [], (I1, L, R, Y), 0, 0) (fun _ => rfl) ?_
  have pt9 : ∀ j9, j9 ≤ k → ∀ (y2 : Int) (y1 : Int) (J1 : Nat → Nat → Int) (G1 : Nat → Nat → Int) (c : tk_C), (tk_R s n c) → (y1 = (c.1 : Int)) → (0 ≤ y2 ∧ y2 ≤ 1000 ∧ y2 ≤ (c.1 : Int)) → (c.1 ≤ n ∧ c.2.1 ≤ c.1) → (cw_W J1 G1 c) → (J1 12 6 = (c.2.1 : Int)) → (J1 12 5 = (n : Int)) → (cw_F I L J1 G1) → yi_D zi_Ms d zi_m292 j9 (9, [(2, .inl y2), (1, .inl y1), (0, .inr (.inr (some 12)))], [], (J1, G1, R, Y), 0, 0) (fun r => ∃ I' L', r = (none, (I', L', R, Y), 0, 0) ∧ cs_T I' L' (tk_Ks s n) (tk_Ps s n) (tk_Vs s n) (tk_te s n) ∧ I' 12 5 = 0 ∧ (∀ p k, ¬ (p = 12 ∧ (k = 5 ∨ k = 6)) ∧ p ≠ 14 ∧ p ≠ 15 → I' p k = I p k) ∧ (∀ p k, p ≠ 16 → L' p k = L p k)) := by
    intro j9
    induction j9 with
    | zero => intros; exact yi_D_0
    | succ j9 ih9 =>
    intro hk9 y2 y1 J1 G1 c hR h1 h2 hcb hK9 h69 e5 hF9
    refine yi_D_run1 1 (13, [(2, .inl y2), (1, .inl y1), (0, .inr (.inr (some 12)))], [.inl 1000, .inl y2], (J1, G1, R, Y), 0, 0) (fun _ => rfl) ?_
    by_cases h3 : 1000 ≤ y2
    · refine yi_D_if2 true rfl (yi_ge_t h3) ?_
      refine yi_D_run 3 (39, [(2, .inl y2), (1, .inl y1), (0, .inr (.inr (some 12)))], [.inr (.inr (some 12)), .inl 0, .inr (.inr (some 12))], (J1, G1, R, Y), 0, 0) (fun _ => rfl) ?_
      refine yi_D_gi (v := (n : Int)) rfl rfl rfl e5 (fun _ => ?_)
      refine yi_D_run 1 (43, [(2, .inl y2), (1, .inl y1), (0, .inr (.inr (some 12)))], [.inr (.inl 0), .inl (n : Int), .inl 0, .inr (.inr (some 12))], (J1, G1, R, Y), 0, 0) (fun _ => rfl) ?_
      refine yi_D_callv rfl (p_addToken hX (t := c.2.1) (by first | exact h69 | exact h69) (by omega)) ?_
      rintro _ ⟨I4, L5, rfl, e6, e7, e8, e9, f10, f11⟩
      show yi_D zi_Ms d zi_m292 j9 (46, [(2, .inl y2), (1, .inl y1), (0, .inr (.inr (some 12)))], [], (I4, L5, R, Y), 0, 0) _
      refine yi_D_run 2 (48, [(2, .inl y2), (1, .inl y1), (0, .inr (.inr (some 12)))], [.inl 0, .inr (.inr (some 12))], (I4, L5, R, Y), 0, 0) (fun _ => rfl) ?_
      refine yi_D_pi rfl (fun _ => ?_)
      generalize w13 : yi_u I4 12 5 0 = I12
      refine yi_D_retv rfl ?_
      exact ⟨_, _, rfl, cw_T_fin hK9 hR (by omega) (by omega) (by omega) (by rw [← w13, yi_u_ne _ _ (by omega)]; exact e9) (by rw [← w13, yi_u_ne _ _ (by omega)]; exact e6) (by rw [← w13, yi_u_ne _ _ (by omega)]; exact e7) (fun p k hp => by rw [← w13, yi_u_ne _ _ (by omega)]; exact f10 p k (by omega)) f11 (by rw [hF9.2 18 0 (by omega), hF9.2 18 1 (by omega), hF9.2 18 2 (by omega)]; exact hw18), by rw [← w13, yi_u_eq], fun p k hp => by rw [← w13, yi_u_ne _ _ (by omega), f10 p k (by omega)]; exact hF9.1 p k (by omega), fun p k hp => (f11 p k (by omega)).trans (hF9.2 p k hp)⟩
    · refine yi_D_if2 false rfl (yi_ge_f h3) ?_
      refine yi_D_run 2 (18, [(2, .inl y2), (1, .inl y1), (0, .inr (.inr (some 12)))], [.inr (.inr (some 12)), .inl y1], (J1, G1, R, Y), 0, 0) (fun _ => rfl) ?_
      refine yi_D_gi (v := (n : Int)) rfl rfl rfl e5 (fun _ => ?_)
      by_cases h14 : (n : Int) ≤ y1
      · refine yi_D_if2 true rfl (yi_ge_t h14) ?_
        refine yi_D_run 3 (39, [(2, .inl y2), (1, .inl y1), (0, .inr (.inr (some 12)))], [.inr (.inr (some 12)), .inl 0, .inr (.inr (some 12))], (J1, G1, R, Y), 0, 0) (fun _ => rfl) ?_
        refine yi_D_gi (v := (n : Int)) rfl rfl rfl e5 (fun _ => ?_)
        refine yi_D_run 1 (43, [(2, .inl y2), (1, .inl y1), (0, .inr (.inr (some 12)))], [.inr (.inl 0), .inl (n : Int), .inl 0, .inr (.inr (some 12))], (J1, G1, R, Y), 0, 0) (fun _ => rfl) ?_
        refine yi_D_callv rfl (p_addToken hX (t := c.2.1) (by first | exact h69 | exact h69) (by omega)) ?_
        rintro _ ⟨I15, L16, rfl, e17, e18, e19, e20, f21, f22⟩
        show yi_D zi_Ms d zi_m292 j9 (46, [(2, .inl y2), (1, .inl y1), (0, .inr (.inr (some 12)))], [], (I15, L16, R, Y), 0, 0) _
        refine yi_D_run 2 (48, [(2, .inl y2), (1, .inl y1), (0, .inr (.inr (some 12)))], [.inl 0, .inr (.inr (some 12))], (I15, L16, R, Y), 0, 0) (fun _ => rfl) ?_
        refine yi_D_pi rfl (fun _ => ?_)
        generalize w24 : yi_u I15 12 5 0 = I23
        refine yi_D_retv rfl ?_
        exact ⟨_, _, rfl, cw_T_fin hK9 hR (by omega) (by omega) (by omega) (by rw [← w24, yi_u_ne _ _ (by omega)]; exact e20) (by rw [← w24, yi_u_ne _ _ (by omega)]; exact e17) (by rw [← w24, yi_u_ne _ _ (by omega)]; exact e18) (fun p k hp => by rw [← w24, yi_u_ne _ _ (by omega)]; exact f21 p k (by omega)) f22 (by rw [hF9.2 18 0 (by omega), hF9.2 18 1 (by omega), hF9.2 18 2 (by omega)]; exact hw18), by rw [← w24, yi_u_eq], fun p k hp => by rw [← w24, yi_u_ne _ _ (by omega), f21 p k (by omega)]; exact hF9.1 p k (by omega), fun p k hp => (f22 p k (by omega)).trans (hF9.2 p k hp)⟩
      · refine yi_D_if2 false rfl (yi_ge_f h14) ?_
        refine yi_D_run 2 (26, [(2, .inl y2), (1, .inl y1), (0, .inr (.inr (some 12)))], [.inl y1, .inr (.inr (some 12))], (J1, G1, R, Y), 0, 0) (fun _ => rfl) ?_
        refine yi_D_callv rfl (p_cutToken (c := c) hX hn e5 (fun i hi => by rw [hF9.1 13 i (by omega)]; exact hs i hi) hb (fun j hj => by rw [hF9.2 17 j (by omega)]; exact hk j hj) (by omega) (by omega) h69 hK9 h1) ?_
        rintro _ ⟨I25, L26, rfl, hK27, h628, hF29⟩
        have hst1 := tk_st_1 (s := s) (n := n) c (by omega)
        have hrb := tk_R_b (tk_R_s hR)
        show yi_D zi_Ms d zi_m292 j9 (29, [(2, .inl y2), (1, .inl y1), (0, .inr (.inr (some 12)))], [.inl ((tk_st s n c).1 : Int)], (I25, L26, R, Y), 0, 0) _
        refine yi_D_run 1 (30, [(1, .inl ((tk_st s n c).1 : Int)), (2, .inl y2), (0, .inr (.inr (some 12)))], [], (I25, L26, R, Y), 0, 0) (fun _ => rfl) ?_
        refine yi_D_iinc [(2, .inl (y2 + 1)), (1, .inl ((tk_st s n c).1 : Int)), (0, .inr (.inr (some 12)))] rfl rfl rfl (by rw [show yi_w (y2 + 1) = y2 + 1 from (yi_wn (by omega) (by omega)).trans (by omega)]; rfl) ?_
        refine yi_D_run 1 (9, [(2, .inl (y2 + 1)), (1, .inl ((tk_st s n c).1 : Int)), (0, .inr (.inr (some 12)))], [], (I25, L26, R, Y), 0, 0) (fun _ => rfl) ?_
        exact yi_D_mono (ih9 (by omega) (y2 + 1) ((tk_st s n c).1 : Int) I25 L26 (tk_st s n c) (tk_R_s hR) rfl (by omega) (by omega) hK27 h628 (by rw [hF29.1 12 5 (by omega)]; exact e5) (cw_F_t hF9 hF29)) (by omega)
  exact pt9 k (Nat.le_refl _) 0 0 I1 L (0, 0, fun _ => 0, fun _ => n, fun _ => 0) tk_R_0 rfl (by dsimp only; omega) (by dsimp only; omega) (fun i hi => absurd hi (by show ¬ i < 0; omega)) (by rw [← w2, yi_u_eq]; rfl) (by rw [← w2, yi_u_ne _ _ (by omega)]; exact h5) ⟨fun p k hp => by rw [← w2, yi_u_ne _ _ (by omega)], fun _ _ _ => rfl⟩
