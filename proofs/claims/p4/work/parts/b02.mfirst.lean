/-! The check: rows as they are, first, fair. -/
def ym_fc (I L : Nat → Nat → Int) (j : Nat) : Nat → Int
  | 0 => L 97 (512 * 32 + (j : Int)).toNat
  | n + 1 => if I 100 (44 + n) < 0 then ym_fc I L j n else yi_land (ym_fc I L j n) (L 97 (512 * (I 88 2 * (n : Int) + I 100 (44 + n)) + (j : Int)).toNat)
def ym_fs (I L : Nat → Nat → Int) (st : Int) (j : Nat) : Nat → Int
  | 0 => ym_fc I L j (I 88 0 * I 88 1).toNat
  | s + 1 => if yi_iand (yi_shr st (s : Int)) 1 = 1 then yi_land (ym_fs I L st j s) (L 97 (512 * (60 + (s : Int)) + (j : Int)).toNat) else ym_fs I L st j s
/-- with all sayings -/
def ym_fa (I L : Nat → Nat → Int) (j : Nat) : Nat → Int
  | 0 => ym_fc I L j (I 88 0 * I 88 1).toNat
  | s + 1 => yi_land (ym_fa I L j s) (L 97 (512 * (60 + (s : Int)) + (j : Int)).toNat)
theorem ym_fc_f {I L : Nat → Nat → Int} {j : Nat} {k : Int} (h : 0 ≤ k) (hc : I 100 (44 + k).toNat < 0) : ym_fc I L j (k + 1).toNat = ym_fc I L j k.toNat := by
  rw [show (k + 1).toNat = k.toNat + 1 by omega]
  rw [show (44 + k).toNat = 44 + k.toNat by omega] at hc
  exact if_pos hc
theorem ym_fc_t {I L : Nat → Nat → Int} {j : Nat} {k : Int} (h : 0 ≤ k) (hc : ¬ I 100 (44 + k).toNat < 0) : ym_fc I L j (k + 1).toNat = yi_land (ym_fc I L j k.toNat) (L 97 (512 * (I 88 2 * k + I 100 (44 + k).toNat) + (j : Int)).toNat) := by
  rw [show (k + 1).toNat = k.toNat + 1 by omega]
  rw [show (44 + k).toNat = 44 + k.toNat by omega] at hc ⊢
  have e : ym_fc I L j (k.toNat + 1) = yi_land (ym_fc I L j k.toNat) (L 97 (512 * (I 88 2 * ((k.toNat : Nat) : Int) + I 100 (44 + k.toNat)) + (j : Int)).toNat) := if_neg hc
  rw [e, Int.toNat_of_nonneg h]
theorem ym_fs_t {I L : Nat → Nat → Int} {st : Int} {j : Nat} {k : Int} (h : 0 ≤ k) (hc : yi_iand (yi_shr st k) 1 = 1) : ym_fs I L st j (k + 1).toNat = yi_land (ym_fs I L st j k.toNat) (L 97 (512 * (60 + k) + (j : Int)).toNat) := by
  obtain ⟨n, rfl⟩ : ∃ n : Nat, k = (n : Int) := ⟨k.toNat, by omega⟩
  rw [show ((n : Int) + 1).toNat = n + 1 by omega, Int.toNat_natCast]
  exact if_pos hc
theorem ym_fs_f {I L : Nat → Nat → Int} {st : Int} {j : Nat} {k : Int} (h : 0 ≤ k) (hc : ¬ yi_iand (yi_shr st k) 1 = 1) : ym_fs I L st j (k + 1).toNat = ym_fs I L st j k.toNat := by
  obtain ⟨n, rfl⟩ : ∃ n : Nat, k = (n : Int) := ⟨k.toNat, by omega⟩
  rw [show ((n : Int) + 1).toNat = n + 1 by omega, Int.toNat_natCast]
  exact if_neg hc
theorem ym_ev : ∀ m, m < 13 → ∀ s, s < m → yi_iand (yi_shr (yi_shl 1 ((m : Nat) : Int) - 1) ((s : Nat) : Int)) 1 = 1 := by decide +kernel
theorem ym_e0 : ∀ s, s < 12 → ¬ yi_iand (yi_shr 0 ((s : Nat) : Int)) 1 = 1 := by decide +kernel
theorem ym_fs_a {I L : Nat → Nat → Int} {m : Nat} {j : Nat} (hm : m < 13) : ∀ s : Nat, s ≤ m → ym_fs I L (yi_shl 1 ((m : Nat) : Int) - 1) j s = ym_fa I L j s
  | 0, _ => rfl
  | s + 1, h => by
    have ih := ym_fs_a (I := I) (L := L) (j := j) hm s (by omega)
    have e : ym_fs I L (yi_shl 1 ((m : Nat) : Int) - 1) j (s + 1) = yi_land (ym_fs I L (yi_shl 1 ((m : Nat) : Int) - 1) j s) (L 97 (512 * (60 + (s : Int)) + (j : Int)).toNat) := if_pos (ym_ev m hm s (by omega))
    rw [e, ih]
    rfl
theorem ym_fs_0 {I L : Nat → Nat → Int} {j : Nat} : ∀ s : Nat, s ≤ 12 → ym_fs I L 0 j s = ym_fa I L j 0
  | 0, _ => rfl
  | s + 1, h => by
    have e : ym_fs I L 0 j (s + 1) = ym_fs I L 0 j s := if_neg (ym_e0 s (by omega))
    rw [e]
    exact ym_fs_0 s (by omega)
/-- a row is as said, the others are as they were -/
def ym_RX (L K : Nat → Nat → Int) (row n : Int) (F : Nat → Int) : Prop := (∀ p k, p ≠ 97 → K p k = L p k) ∧ (∀ q : Nat, ¬ (512 * row ≤ (q : Int) ∧ (q : Int) < 512 * row + 512) → K 97 q = L 97 q) ∧ ∀ j : Nat, (j : Int) < n → K 97 (512 * row + (j : Int)).toNat = F j
section YRX
variable {L K : Nat → Nat → Int} {row n ot : Int} {F G : Nat → Int}
theorem ym_RX_c (h0 : 0 ≤ row) (hn : n ≤ 512) : ym_RX L (ym_rw L row n F) row n F := ⟨fun p k hp => ym_rw_p _ _ _ _ hp, fun q hq => ym_rw_o _ _ _ _ (by omega), fun j hj => by
  rw [ym_rw_i _ _ _ _ (by omega)]
  congr 1
  omega⟩
theorem ym_RX_m (h : ym_RX L K row n F) (h0 : 0 ≤ row) (hn : n ≤ 512) (ho : 0 ≤ ot) (hne : ot ≠ row) : ym_RX L (ym_rw K row n (fun j => yi_land (K 97 (512 * row + (j : Int)).toNat) (K 97 (512 * ot + (j : Int)).toNat))) row n (fun j => yi_land (F j) (L 97 (512 * ot + (j : Int)).toNat)) := ⟨fun p k hp => by
  rw [ym_rw_p _ _ _ _ hp]
  exact h.1 p k hp, fun q hq => by
  rw [ym_rw_o _ _ _ _ (by omega)]
  exact h.2.1 q hq, fun j hj => by
  rw [ym_rw_i _ _ _ _ (by omega)]
  have e : (((512 * row + (j : Int)).toNat : Int) - 512 * row).toNat = j := by omega
  rw [e]
  show yi_land (K 97 (512 * row + (j : Int)).toNat) (K 97 (512 * ot + (j : Int)).toNat) = _
  rw [h.2.2 j hj, h.2.1 _ (by omega)]⟩
theorem ym_RX_e (h : ym_RX L K row n F) (e : ∀ j : Nat, (j : Int) < n → F j = G j) : ym_RX L K row n G := ⟨h.1, h.2.1, fun j hj => (h.2.2 j hj).trans (e j hj)⟩
end YRX
/-- rows of words lie below the laws -/
def ym_WB (I : Nat → Nat → Int) : Prop := ∀ k : Int, 0 ≤ k → k < I 88 0 * I 88 1 → ∀ c : Int, 0 ≤ c → c ≤ 3 → I 88 2 * k + c < 32
theorem ym_WB_t {I J : Nat → Nat → Int} (e : ∀ k, J 88 k = I 88 k) (h : ym_WB I) : ym_WB J := by
  intro k a b c x y
  rw [e, e] at b
  rw [e]
  exact h k a b c x y
theorem ym_WB_of {I : Nat → Nat → Int} (hLR : ym_LR I) (h : 1 ≤ ym_fo (I 88 0) (I 88 1) (I 88 2)) : ym_WB I := by
  obtain ⟨l0, l1, l2, l3, l4, l5⟩ := id hLR
  intro k k0 k1 c c0 c1
  have m1 := yi_mb (a := I 88 0) (b := I 88 1) (A := 6) (B := 4) (by omega) (by omega) (by omega) (by omega)
  have key : ∀ (e : Int) (t : Nat), 1 ≤ e → I 88 2 = e → 32768 < ym_fn e t → (I 88 0 * I 88 1).toNat < t := by
    intro e t he1 he hf
    rw [he] at h
    have hu := ym_fo_u he1 h
    rcases Nat.lt_or_ge (I 88 0 * I 88 1).toNat t with z | z
    · exact z
    · have := ym_fn_u (e := e) _ t z hu
      omega
  rcases (show I 88 2 = 0 ∨ I 88 2 = 1 ∨ I 88 2 = 2 ∨ I 88 2 = 3 ∨ I 88 2 = 4 by omega) with z | z | z | z | z
  · rw [z]; omega
  · rw [z]; omega
  · have := key 2 16 (by omega) z (by decide +kernel)
    rw [z]; omega
  · have := key 3 10 (by omega) z (by decide +kernel)
    rw [z]; omega
  · have := key 4 8 (by omega) z (by decide +kernel)
    rw [z]; omega
theorem c_laysX (D : Nat) (hD : 2 ≤ D) {I L : Nat → Nat → Int} {X : ym_X} (hS : ym_S X) {row st : Int} (hLR : ym_LR I) (hS0 : ym_S0 I) (hWB : ym_WB I) (h0 : 33 ≤ row) (h1 : row ≤ 59) (hl : 0 ≤ I 82 25 ∧ I 82 25 ≤ 512) : yi_E zi_Ms D 74 [.inr (.inr (some 82)), .inl row, .inl st, .inl 1] (I, L, X) (fun r => ∃ L', r = (none, (I, L', X), 0, 0) ∧ ym_RX L L' row (I 82 25) (fun j => ym_fs I L st j (I 100 0).toNat)) := by
  obtain ⟨d, rfl⟩ : ∃ d, D = d + 1 := ⟨D - 1, by omega⟩
  refine yi_E_of (M := zi_m74) rfl rfl ?_
  obtain ⟨l0, l1, l2, l3, l4, l5⟩ := id hLR
  obtain ⟨t0, t1, t2, t3, t4⟩ := id hS0
  have m1 := yi_mb (a := I 88 0) (b := I 88 1) (A := 6) (B := 4) (by omega) (by omega) (by omega) (by omega)
  show yi_G zi_Ms d zi_m74 (0, [(0, .inr (.inr (some 82))), (1, .inl row), (2, .inl st), (3, .inl 1)], [], (I, L, X), 0, 0) _
  refine yi_G_run 3 (4, [(0, .inr (.inr (some 82))), (1, .inl row), (2, .inl st), (3, .inl 1)], [.inl row, .inl 32, .inr (.inr (some 82))], (I, L, X), 0, 0) (fun _ => rfl) ?_
  refine yi_G_callv rfl rfl (ym_rcv hS) rfl (c_copiesRow d (by omega) hS (by omega) (by omega) (by omega) (by omega) (by omega) (by omega)) ?_
  intro r hr
  obtain ⟨L1, exL1⟩ : ∃ z, z = ym_rw L row (I 82 25) (fun j => L 97 (512 * 32 + (j : Int)).toNat) := ⟨_, rfl⟩
  rw [← exL1] at hr
  subst hr
  have f2 : ym_RX L L1 row (I 82 25) (fun j => ym_fc I L j 0) := by
    rw [exL1]
    exact ym_RX_c (by omega) (by omega)
  show yi_G zi_Ms d zi_m74 (7, [(0, .inr (.inr (some 82))), (1, .inl row), (2, .inl st), (3, .inl 1)], [], (I, L1, X), 0, 0) _
  refine yi_G_run 2 (10, [(4, .inl 0), (0, .inr (.inr (some 82))), (1, .inl row), (2, .inl st), (3, .inl 1)], [], (I, L1, X), 0, 0) (fun _ => rfl) ?_
  have pt10 : ∀ (m : Nat) (k : Int) (Ka : Nat → Nat → Int), (ym_RX L Ka row (I 82 25) (fun j => ym_fc I L j k.toNat)) → (0 ≤ k) → (k ≤ I 88 0 * I 88 1) → (I 88 0 * I 88 1 - k).toNat = m → yi_G zi_Ms d zi_m74 (10, [(4, .inl k), (0, .inr (.inr (some 82))), (1, .inl row), (2, .inl st), (3, .inl 1)], [], (I, Ka, X), 0, 0) (fun r => ∃ L', r = (none, (I, L', X), 0, 0) ∧ ym_RX L L' row (I 82 25) (fun j => ym_fs I L st j (I 100 0).toNat)) := by
    intro m10
    induction m10 using Nat.strongRecOn with
    | _ m10 ih10 =>
    intro k Ka fKa k0 k1 hm10
    refine yi_G_run 2 (13, [(4, .inl k), (0, .inr (.inr (some 82))), (1, .inl row), (2, .inl st), (3, .inl 1)], [.inr (.inr (some 82)), .inl k], (I, Ka, X), 0, 0) (fun _ => rfl) ?_
    refine yi_G_callv rfl rfl (ym_rcv hS) rfl (c_days d (by omega) hS rfl) ?_
    rintro _ rfl
    show yi_G zi_Ms d zi_m74 (16, [(4, .inl k), (0, .inr (.inr (some 82))), (1, .inl row), (2, .inl st), (3, .inl 1)], [.inl (I 88 0), .inl k], (I, Ka, X), 0, 0) _
    refine yi_G_run 1 (17, [(4, .inl k), (0, .inr (.inr (some 82))), (1, .inl row), (2, .inl st), (3, .inl 1)], [.inr (.inr (some 82)), .inl (I 88 0), .inl k], (I, Ka, X), 0, 0) (fun _ => rfl) ?_
    refine yi_G_callv rfl rfl (ym_rcv hS) rfl (c_people d (by omega) hS rfl) ?_
    rintro _ rfl
    show yi_G zi_Ms d zi_m74 (20, [(4, .inl k), (0, .inr (.inr (some 82))), (1, .inl row), (2, .inl st), (3, .inl 1)], [.inl (I 88 1), .inl (I 88 0), .inl k], (I, Ka, X), 0, 0) _
    refine yi_G_imul rfl ((I 88 0) * (I 88 1)) (yi_wn (by omega) (by omega)) ?_
    by_cases h3 : ((I 88 0) * (I 88 1)) ≤ k
    · refine yi_G_if2 true rfl (yi_ge_t h3) ?_
      refine yi_G_run 2 (73, [(4, .inl 0), (0, .inr (.inr (some 82))), (1, .inl row), (2, .inl st), (3, .inl 1)], [], (I, Ka, X), 0, 0) (fun _ => rfl) ?_
      have pt73 : ∀ (m : Nat) (k : Int) (Kb : Nat → Nat → Int), (ym_RX L Kb row (I 82 25) (fun j => ym_fs I L st j k.toNat)) → (0 ≤ k) → (k ≤ I 100 0) → (I 100 0 - k).toNat = m → yi_G zi_Ms d zi_m74 (73, [(4, .inl k), (0, .inr (.inr (some 82))), (1, .inl row), (2, .inl st), (3, .inl 1)], [], (I, Kb, X), 0, 0) (fun r => ∃ L', r = (none, (I, L', X), 0, 0) ∧ ym_RX L L' row (I 82 25) (fun j => ym_fs I L st j (I 100 0).toNat)) := by
        intro m73
        induction m73 using Nat.strongRecOn with
        | _ m73 ih73 =>
        intro k Kb fKb k2 k3 hm73
        refine yi_G_run 2 (76, [(4, .inl k), (0, .inr (.inr (some 82))), (1, .inl row), (2, .inl st), (3, .inl 1)], [.inr (.inr (some 82)), .inl k], (I, Kb, X), 0, 0) (fun _ => rfl) ?_
        refine yi_G_get (79, [(4, .inl k), (0, .inr (.inr (some 82))), (1, .inl row), (2, .inl st), (3, .inl 1)], [.inr (.inr (some 100)), .inl k], (I, Kb, X), 0, 0) rfl (ym_gr hS 17 rfl rfl rfl) ?_
        refine yi_G_run 1 (80, [(4, .inl k), (0, .inr (.inr (some 82))), (1, .inl row), (2, .inl st), (3, .inl 1)], [.inl 0, .inr (.inr (some 100)), .inl k], (I, Kb, X), 0, 0) (fun _ => rfl) ?_
        refine yi_G_iald (81, [(4, .inl k), (0, .inr (.inr (some 82))), (1, .inl row), (2, .inl st), (3, .inl 1)], [.inl (I 100 0), .inl k], (I, Kb, X), 0, 0) rfl (ym_li hS 17 rfl (by omega) (by omega) rfl) ?_
        by_cases h4 : (I 100 0) ≤ k
        · refine yi_G_if2 true rfl (yi_ge_t h4) ?_
          exact yi_G_retv rfl rfl ⟨_, rfl, ym_RX_e fKb (fun j _ => congrArg (fun z : Int => ym_fs I L st j z.toNat) (show k = I 100 0 by omega))⟩
        · refine yi_G_if2 false rfl (yi_ge_f h4) ?_
          refine yi_G_run 2 (87, [(4, .inl k), (0, .inr (.inr (some 82))), (1, .inl row), (2, .inl st), (3, .inl 1)], [.inl k, .inl st], (I, Kb, X), 0, 0) (fun _ => rfl) ?_
          refine yi_G_calls rfl rfl (c_isIn d (by omega) hS) ?_
          rintro _ (⟨c5, rfl⟩ | ⟨c5, rfl⟩)
          · show yi_G zi_Ms d zi_m74 (90, [(4, .inl k), (0, .inr (.inr (some 82))), (1, .inl row), (2, .inl st), (3, .inl 1)], [.inl 1], (I, Kb, X), 0, 0) _
            refine yi_G_if1 false rfl (by decide) ?_
            refine yi_G_run 4 (99, [(4, .inl k), (0, .inr (.inr (some 82))), (1, .inl row), (2, .inl st), (3, .inl 1)], [.inl k, .inl 60, .inl row, .inr (.inr (some 82))], (I, Kb, X), 0, 0) (fun _ => rfl) ?_
            refine yi_G_iadd rfl (60 + k) (yi_wn (by omega) (by omega)) ?_
            refine yi_G_callv rfl rfl (ym_rcv hS) rfl (c_meets d (by omega) hS (by omega) (by omega) (by omega) (by omega) (by omega) (by omega)) ?_
            intro r hr
            obtain ⟨L6, exL6⟩ : ∃ z, z = ym_rw Kb row (I 82 25) (fun j => yi_land (Kb 97 (512 * row + (j : Int)).toNat) (Kb 97 (512 * (60 + k) + (j : Int)).toNat)) := ⟨_, rfl⟩
            rw [← exL6] at hr
            subst hr
            have f7 : ym_RX L L6 row (I 82 25) (fun j => ym_fs I L st j (k + 1).toNat) := by
              rw [exL6]
              exact ym_RX_e (ym_RX_m fKb (by omega) (by omega) (by omega) (by omega)) (fun j _ => (ym_fs_t k2 c5).symm)
            show yi_G zi_Ms d zi_m74 (103, [(4, .inl k), (0, .inr (.inr (some 82))), (1, .inl row), (2, .inl st), (3, .inl 1)], [], (I, L6, X), 0, 0) _
            refine yi_G_iinc [(4, .inl (k + 1)), (0, .inr (.inr (some 82))), (1, .inl row), (2, .inl st), (3, .inl 1)] rfl rfl rfl (by rw [show yi_w (k + 1) = k + 1 from (yi_wn (by omega) (by omega)).trans (by omega)]; rfl) ?_
            refine yi_G_run 1 (73, [(4, .inl (k + 1)), (0, .inr (.inr (some 82))), (1, .inl row), (2, .inl st), (3, .inl 1)], [], (I, L6, X), 0, 0) (fun _ => rfl) ?_
            exact ih73 _ (by omega) (k + 1) L6 f7 (by omega) (by omega) rfl
          · show yi_G zi_Ms d zi_m74 (90, [(4, .inl k), (0, .inr (.inr (some 82))), (1, .inl row), (2, .inl st), (3, .inl 1)], [.inl 0], (I, Kb, X), 0, 0) _
            refine yi_G_if1 true rfl (by decide) ?_
            refine yi_G_iinc [(4, .inl (k + 1)), (0, .inr (.inr (some 82))), (1, .inl row), (2, .inl st), (3, .inl 1)] rfl rfl rfl (by rw [show yi_w (k + 1) = k + 1 from (yi_wn (by omega) (by omega)).trans (by omega)]; rfl) ?_
            refine yi_G_run 1 (73, [(4, .inl (k + 1)), (0, .inr (.inr (some 82))), (1, .inl row), (2, .inl st), (3, .inl 1)], [], (I, Kb, X), 0, 0) (fun _ => rfl) ?_
            exact ih73 _ (by omega) (k + 1) Kb (ym_RX_e fKb (fun j _ => (ym_fs_f k2 c5).symm)) (by omega) (by omega) rfl
      exact pt73 _ 0 Ka (ym_RX_e fKa (fun j _ => congrArg (fun z : Int => ym_fc I L j z.toNat) (show k = I 88 0 * I 88 1 by omega))) (by omega) (by omega) rfl
    · refine yi_G_if2 false rfl (yi_ge_f h3) ?_
      refine yi_G_run 1 (25, [(4, .inl k), (0, .inr (.inr (some 82))), (1, .inl row), (2, .inl st), (3, .inl 1)], [.inl 1], (I, Ka, X), 0, 0) (fun _ => rfl) ?_
      · refine yi_G_if1 false rfl (by decide) ?_
        refine yi_G_run 1 (29, [(4, .inl k), (0, .inr (.inr (some 82))), (1, .inl row), (2, .inl st), (3, .inl 1)], [.inr (.inr (some 82))], (I, Ka, X), 0, 0) (fun _ => rfl) ?_
        refine yi_G_get (32, [(4, .inl k), (0, .inr (.inr (some 82))), (1, .inl row), (2, .inl st), (3, .inl 1)], [.inr (.inr (some 100))], (I, Ka, X), 0, 0) rfl (ym_gr hS 17 rfl rfl rfl) ?_
        refine yi_G_run 2 (36, [(4, .inl k), (0, .inr (.inr (some 82))), (1, .inl row), (2, .inl st), (3, .inl 1)], [.inl k, .inl 44, .inr (.inr (some 100))], (I, Ka, X), 0, 0) (fun _ => rfl) ?_
        refine yi_G_iadd rfl (44 + k) (yi_wn (by omega) (by omega)) ?_
        refine yi_G_iald (38, [(4, .inl k), (0, .inr (.inr (some 82))), (1, .inl row), (2, .inl st), (3, .inl 1)], [.inl (I 100 ((44 + k).toNat))], (I, Ka, X), 0, 0) rfl (ym_li hS 17 rfl (by omega) (by omega) rfl) ?_
        by_cases h13 : (I 100 ((44 + k).toNat)) < 0
        · refine yi_G_if1 true rfl (yi_lt_t h13) ?_
          refine yi_G_iinc [(4, .inl (k + 1)), (0, .inr (.inr (some 82))), (1, .inl row), (2, .inl st), (3, .inl 1)] rfl rfl rfl (by rw [show yi_w (k + 1) = k + 1 from (yi_wn (by omega) (by omega)).trans (by omega)]; rfl) ?_
          refine yi_G_run 1 (10, [(4, .inl (k + 1)), (0, .inr (.inr (some 82))), (1, .inl row), (2, .inl st), (3, .inl 1)], [], (I, Ka, X), 0, 0) (fun _ => rfl) ?_
          exact ih10 _ (by omega) (k + 1) Ka (ym_RX_e fKa (fun j _ => (ym_fc_f k0 h13).symm)) (by omega) (by omega) rfl
        · refine yi_G_if1 false rfl (yi_lt_f h13) ?_
          refine yi_G_run 3 (44, [(4, .inl k), (0, .inr (.inr (some 82))), (1, .inl row), (2, .inl st), (3, .inl 1)], [.inr (.inr (some 82)), .inl row, .inr (.inr (some 82))], (I, Ka, X), 0, 0) (fun _ => rfl) ?_
          refine yi_G_callv rfl rfl (ym_rcv hS) rfl (c_events d (by omega) hS rfl) ?_
          rintro _ rfl
          show yi_G zi_Ms d zi_m74 (47, [(4, .inl k), (0, .inr (.inr (some 82))), (1, .inl row), (2, .inl st), (3, .inl 1)], [.inl (I 88 2), .inl row, .inr (.inr (some 82))], (I, Ka, X), 0, 0) _
          refine yi_G_run 1 (49, [(4, .inl k), (0, .inr (.inr (some 82))), (1, .inl row), (2, .inl st), (3, .inl 1)], [.inl k, .inl (I 88 2), .inl row, .inr (.inr (some 82))], (I, Ka, X), 0, 0) (fun _ => rfl) ?_
          have mk := yi_mb (a := I 88 2) (b := k) (A := 4) (B := 23) (by omega) (by omega) (by omega) (by omega)
          refine yi_G_imul rfl ((I 88 2) * k) (yi_wn (by omega) (by omega)) ?_
          refine yi_G_run 1 (51, [(4, .inl k), (0, .inr (.inr (some 82))), (1, .inl row), (2, .inl st), (3, .inl 1)], [.inr (.inr (some 82)), .inl ((I 88 2) * k), .inl row, .inr (.inr (some 82))], (I, Ka, X), 0, 0) (fun _ => rfl) ?_
          refine yi_G_get (54, [(4, .inl k), (0, .inr (.inr (some 82))), (1, .inl row), (2, .inl st), (3, .inl 1)], [.inr (.inr (some 100)), .inl ((I 88 2) * k), .inl row, .inr (.inr (some 82))], (I, Ka, X), 0, 0) rfl (ym_gr hS 17 rfl rfl rfl) ?_
          refine yi_G_run 2 (58, [(4, .inl k), (0, .inr (.inr (some 82))), (1, .inl row), (2, .inl st), (3, .inl 1)], [.inl k, .inl 44, .inr (.inr (some 100)), .inl ((I 88 2) * k), .inl row, .inr (.inr (some 82))], (I, Ka, X), 0, 0) (fun _ => rfl) ?_
          refine yi_G_iadd rfl (44 + k) (yi_wn (by omega) (by omega)) ?_
          refine yi_G_iald (60, [(4, .inl k), (0, .inr (.inr (some 82))), (1, .inl row), (2, .inl st), (3, .inl 1)], [.inl (I 100 ((44 + k).toNat)), .inl ((I 88 2) * k), .inl row, .inr (.inr (some 82))], (I, Ka, X), 0, 0) rfl (ym_li hS 17 rfl (by omega) (by omega) rfl) ?_
          have hc := t4 k (by omega) (by omega)
          have hwk := hWB k (by omega) (by omega) (I 100 ((44 + k).toNat)) (by omega) (by omega)
          refine yi_G_iadd rfl (((I 88 2) * k) + (I 100 ((44 + k).toNat))) (yi_wn (by omega) (by omega)) ?_
          refine yi_G_callv rfl rfl (ym_rcv hS) rfl (c_meets d (by omega) hS (by omega) (by omega) (by omega) (by omega) (by omega) (by omega)) ?_
          intro r hr
          obtain ⟨L14, exL14⟩ : ∃ z, z = ym_rw Ka row (I 82 25) (fun j => yi_land (Ka 97 (512 * row + (j : Int)).toNat) (Ka 97 (512 * (((I 88 2) * k) + (I 100 ((44 + k).toNat))) + (j : Int)).toNat)) := ⟨_, rfl⟩
          rw [← exL14] at hr
          subst hr
          have f15 : ym_RX L L14 row (I 82 25) (fun j => ym_fc I L j (k + 1).toNat) := by
            rw [exL14]
            exact ym_RX_e (ym_RX_m fKa (by omega) (by omega) (by omega) (by omega)) (fun j _ => (ym_fc_t k0 h13).symm)
          show yi_G zi_Ms d zi_m74 (64, [(4, .inl k), (0, .inr (.inr (some 82))), (1, .inl row), (2, .inl st), (3, .inl 1)], [], (I, L14, X), 0, 0) _
          refine yi_G_iinc [(4, .inl (k + 1)), (0, .inr (.inr (some 82))), (1, .inl row), (2, .inl st), (3, .inl 1)] rfl rfl rfl (by rw [show yi_w (k + 1) = k + 1 from (yi_wn (by omega) (by omega)).trans (by omega)]; rfl) ?_
          refine yi_G_run 1 (10, [(4, .inl (k + 1)), (0, .inr (.inr (some 82))), (1, .inl row), (2, .inl st), (3, .inl 1)], [], (I, L14, X), 0, 0) (fun _ => rfl) ?_
          exact ih10 _ (by omega) (k + 1) L14 f15 (by omega) (by omega) rfl
  exact pt10 _ 0 L1 f2 (by omega) (by omega) rfl
theorem c_findLeftX (D : Nat) (hD : 3 ≤ D) {I L : Nat → Nat → Int} {X : ym_X} (hS : ym_S X) (hLR : ym_LR I) (hS0 : ym_S0 I) (hWB : ym_WB I) (hl : 0 ≤ I 82 25 ∧ I 82 25 ≤ 512) : yi_E zi_Ms D 28 [.inr (.inr (some 82))] (I, L, X) (fun r => ∃ z L', r = (some (.inl z), (I, L', X), 0, 0) ∧ ym_RX L L' 39 (I 82 25) (fun j => ym_fa I L j (I 100 0).toNat) ∧ z = ym_ct (fun j => L' 97 (512 * 39 + (j : Int)).toNat) (I 82 25).toNat) := by
  obtain ⟨d, rfl⟩ : ∃ d, D = d + 1 := ⟨D - 1, by omega⟩
  refine yi_E_of (M := zi_m28) rfl rfl ?_
  obtain ⟨l0, l1, l2, l3, l4, l5⟩ := id hLR
  obtain ⟨t0, t1, t2, t3, t4⟩ := id hS0
  show yi_G zi_Ms d zi_m28 (0, [(0, .inr (.inr (some 82)))], [], (I, L, X), 0, 0) _
  refine yi_G_run 3 (4, [(0, .inr (.inr (some 82)))], [.inr (.inr (some 82)), .inl 39, .inr (.inr (some 82))], (I, L, X), 0, 0) (fun _ => rfl) ?_
  refine yi_G_callv rfl rfl (ym_rcv hS) rfl (c_everySaying d (by omega) hS t0) ?_
  rintro _ rfl
  show yi_G zi_Ms d zi_m28 (7, [(0, .inr (.inr (some 82)))], [.inl (yi_shl 1 (I 100 0) - 1), .inl 39, .inr (.inr (some 82))], (I, L, X), 0, 0) _
  refine yi_G_run 1 (8, [(0, .inr (.inr (some 82)))], [.inl 1, .inl (yi_shl 1 (I 100 0) - 1), .inl 39, .inr (.inr (some 82))], (I, L, X), 0, 0) (fun _ => rfl) ?_
  refine yi_G_callv rfl rfl (ym_rcv hS) rfl (c_laysX d (by omega) hS hLR hS0 hWB (by omega) (by omega) ⟨(by omega), (by omega)⟩) ?_
  rintro _ ⟨L1, rfl, f2⟩
  show yi_G zi_Ms d zi_m28 (11, [(0, .inr (.inr (some 82)))], [], (I, L1, X), 0, 0) _
  refine yi_G_run 2 (14, [(0, .inr (.inr (some 82)))], [.inl 39, .inr (.inr (some 82))], (I, L1, X), 0, 0) (fun _ => rfl) ?_
  refine yi_G_callv rfl rfl (ym_rcv hS) rfl (c_many d (by omega) hS (by omega) (by omega) (by omega) (by omega)) ?_
  rintro _ rfl
  show yi_G zi_Ms d zi_m28 (17, [(0, .inr (.inr (some 82)))], [.inl (ym_ct (fun j => L1 97 (512 * 39 + (j : Int)).toNat) (I 82 25).toNat)], (I, L1, X), 0, 0) _
  exact yi_G_reti rfl rfl ⟨_, _, rfl, ym_RX_e f2 (fun j _ => by
    have z := ym_fs_a (I := I) (L := L) (m := (I 100 0).toNat) (j := j) (by omega) (I 100 0).toNat (Nat.le_refl _)
    rw [Int.toNat_of_nonneg (show 0 ≤ I 100 0 by omega)] at z
    exact z), rfl⟩
theorem y_cb_s (L : Nat → Nat → Int) {f : Int} (h : 0 ≤ f) : (yi_land (yi_lshr (L 97 (512 * 39 + f / 64).toNat) (f % 64)) 1 = 1 → y_cb (fun j => L 97 (512 * 39 + (j : Int)).toNat) (f + 1).toNat = y_cb (fun j => L 97 (512 * 39 + (j : Int)).toNat) f.toNat + 1) ∧ (¬ yi_land (yi_lshr (L 97 (512 * 39 + f / 64).toNat) (f % 64)) 1 = 1 → y_cb (fun j => L 97 (512 * 39 + (j : Int)).toNat) (f + 1).toNat = y_cb (fun j => L 97 (512 * 39 + (j : Int)).toNat) f.toNat) := by
  obtain ⟨n, rfl⟩ : ∃ n : Nat, f = (n : Int) := ⟨f.toNat, by omega⟩
  have z := y_st_i (fun j => L 97 (512 * 39 + (j : Int)).toNat) n
  have e : y_st (fun j => L 97 (512 * 39 + (j : Int)).toNat) n ↔ yi_land (yi_lshr (L 97 (512 * 39 + (n : Int) / 64).toNat) ((n : Int) % 64)) 1 = 1 := by
    show yi_land (yi_lshr (L 97 (512 * 39 + ((n / 64 : Nat) : Int)).toNat) ((n % 64 : Nat) : Int)) 1 = 1 ↔ _
    rw [show ((n / 64 : Nat) : Int) = (n : Int) / 64 by omega, show ((n % 64 : Nat) : Int) = (n : Int) % 64 by omega]
  rw [e] at z
  have u : y_cb (fun j => L 97 (512 * 39 + (j : Int)).toNat) (n + 1) = y_cb (fun j => L 97 (512 * 39 + (j : Int)).toNat) n + yu (L 97 (512 * 39 + ((n / 64 : Nat) : Int)).toNat) / 2 ^ (n % 64) % 2 := rfl
  rw [show ((n : Int) + 1).toNat = n + 1 by omega, Int.toNat_natCast, u]
  refine ⟨fun c => ?_, fun c => ?_⟩
  · have := z.mp c
    omega
  · have : ¬ _ := fun q => c (z.mpr q)
    omega
theorem y_fl {G : Nat → Int} {a f n : Int} (h : a + ((y_cb G f.toNat : Nat) : Int) < ((y_cb G (64 * n.toNat) : Nat) : Int)) (h0 : 0 ≤ a) (hf : 0 ≤ f) (hn : 0 ≤ n) : f < 64 * n := by
  rcases Nat.lt_or_ge f.toNat (64 * n.toNat) with z | z
  · omega
  · have q := y_cb_m G (64 * n.toNat) (f.toNat - 64 * n.toNat)
    rw [show 64 * n.toNat + (f.toNat - 64 * n.toNat) = f.toNat by omega] at q
    omega
theorem q_fair (D : Nat) (hD : 6 ≤ D) {I L : Nat → Nat → Int} {X : ym_X} (hS : ym_S X) {se p da : Int} (hLR : ym_LR I) (hS0 : ym_S0 I) (hl : 0 ≤ I 82 25 ∧ I 82 25 ≤ 512) (hWB : ym_WB I) (hPW : ym_PW I) : yi_E zi_Ms D 24 [.inr (.inr (some 82)), .inl se, .inl p, .inl da] (I, L, X) (fun r => ∃ z I' L', r = (some (.inl z), (I', L', X), 0, 0) ∧ (∀ p k, p ≠ 96 ∧ p ≠ 99 ∧ p ≠ 103 ∧ p ≠ 104 ∧ p ≠ 105 ∧ p ≠ 106 ∧ p ≠ 107 ∧ p ≠ 108 ∧ ¬ (p = 82 ∧ k = 0) ∧ ¬ (p = 82 ∧ k = 34) ∧ ¬ (p = 82 ∧ k = 35) ∧ ¬ (p = 82 ∧ k = 37) ∧ ¬ (p = 82 ∧ k = 40) → I' p k = I p k) ∧ (∀ p k, p ≠ 97 ∧ ¬ (p = 82 ∧ k = 43) → L' p k = L p k)) := by
  obtain ⟨d, rfl⟩ : ∃ d, D = d + 1 := ⟨D - 1, by omega⟩
  refine yi_E_of (M := zi_m24) rfl rfl ?_
  obtain ⟨l0, l1, l2, l3, l4, l5⟩ := id hLR
  obtain ⟨t0, t1, t2, t3, t4⟩ := id hS0
  show yi_G zi_Ms d zi_m24 (0, [(0, .inr (.inr (some 82))), (1, .inl se), (2, .inl p), (3, .inl da)], [], (I, L, X), 0, 0) _
  refine yi_G_run 2 (2, [(0, .inr (.inr (some 82))), (1, .inl se), (2, .inl p), (3, .inl da)], [.inl 0, .inr (.inr (some 82))], (I, L, X), 0, 0) (fun _ => rfl) ?_
  refine yi_G_put (5, [(0, .inr (.inr (some 82))), (1, .inl se), (2, .inl p), (3, .inl da)], [], ((yi_u I 82 0 0), L, X), 0, 0) rfl (ym_pi hS rfl rfl) ?_
  generalize w2 : yi_u I 82 0 0 = I1
  refine yi_G_run 1 (6, [(0, .inr (.inr (some 82))), (1, .inl se), (2, .inl p), (3, .inl da)], [.inr (.inr (some 82))], (I1, L, X), 0, 0) (fun _ => rfl) ?_
  have r6 : I1 82 25 = I 82 25 := by rw [← w2, yi_u_ne _ _ (by omega)]
  refine yi_G_callv rfl rfl (ym_rcv hS) rfl (c_findLeftX d (by omega) hS (ym_LR_t (fun k => by rw [← w2, yi_u_ne _ _ (fun z => absurd z.1 (by decide))]) hLR) (ym_S0_t (fun k => by rw [← w2, yi_u_ne _ _ (fun z => absurd z.1 (by decide))]) hS0) (ym_WB_t (fun k => by rw [← w2, yi_u_ne _ _ (fun z => absurd z.1 (by decide))]) hWB) ⟨(by rw [r6]; omega), (by rw [r6]; omega)⟩) ?_
  rintro _ ⟨z5, L3, rfl, f4, n7⟩
  show yi_G zi_Ms d zi_m24 (9, [(0, .inr (.inr (some 82))), (1, .inl se), (2, .inl p), (3, .inl da)], [.inl z5], (I1, L3, X), 0, 0) _
  refine yi_G_run 4 (16, [(4, .inl z5), (0, .inr (.inr (some 82))), (1, .inl se), (2, .inl p), (3, .inl da)], [.inl 9999, .inl 0, .inl se], (I1, L3, X), 0, 0) (fun _ => rfl) ?_
  refine yi_G_calls rfl rfl (c_within d (by omega) hS) ?_
  rintro _ (⟨c8, rfl⟩ | ⟨c8, rfl⟩)
  · show yi_G zi_Ms d zi_m24 (19, [(4, .inl z5), (0, .inr (.inr (some 82))), (1, .inl se), (2, .inl p), (3, .inl da)], [.inl 1], (I1, L3, X), 0, 0) _
    refine yi_G_if1 false rfl (by decide) ?_
    refine yi_G_run 2 (24, [(4, .inl z5), (0, .inr (.inr (some 82))), (1, .inl se), (2, .inl p), (3, .inl da)], [.inl p, .inr (.inr (some 82))], (I1, L3, X), 0, 0) (fun _ => rfl) ?_
    have r10 : I1 88 1 = I 88 1 := by rw [← w2, yi_u_ne _ _ (by omega)]
    refine yi_G_callv rfl rfl (ym_rcv hS) rfl (c_isPerson d (by omega) hS r10) ?_
    rintro _ (⟨c9, rfl⟩ | ⟨c9, rfl⟩)
    · show yi_G zi_Ms d zi_m24 (27, [(4, .inl z5), (0, .inr (.inr (some 82))), (1, .inl se), (2, .inl p), (3, .inl da)], [.inl 1], (I1, L3, X), 0, 0) _
      refine yi_G_if1 false rfl (by decide) ?_
      refine yi_G_run 2 (32, [(4, .inl z5), (0, .inr (.inr (some 82))), (1, .inl se), (2, .inl p), (3, .inl da)], [.inl da, .inr (.inr (some 82))], (I1, L3, X), 0, 0) (fun _ => rfl) ?_
      have r12 : I1 88 0 = I 88 0 := by rw [← w2, yi_u_ne _ _ (by omega)]
      refine yi_G_callv rfl rfl (ym_rcv hS) rfl (c_isDay d (by omega) hS r12) ?_
      rintro _ (⟨c11, rfl⟩ | ⟨c11, rfl⟩)
      · show yi_G zi_Ms d zi_m24 (35, [(4, .inl z5), (0, .inr (.inr (some 82))), (1, .inl se), (2, .inl p), (3, .inl da)], [.inl 1], (I1, L3, X), 0, 0) _
        refine yi_G_if1 false rfl (by decide) ?_
        refine yi_G_run 1 (39, [(4, .inl z5), (0, .inr (.inr (some 82))), (1, .inl se), (2, .inl p), (3, .inl da)], [.inr (.inr (some 82))], (I1, L3, X), 0, 0) (fun _ => rfl) ?_
        have r13 : I1 88 2 = I 88 2 := by rw [← w2, yi_u_ne _ _ (by omega)]
        refine yi_G_callv rfl rfl (ym_rcv hS) rfl (c_events d (by omega) hS r13) ?_
        rintro _ rfl
        show yi_G zi_Ms d zi_m24 (42, [(4, .inl z5), (0, .inr (.inr (some 82))), (1, .inl se), (2, .inl p), (3, .inl da)], [.inl (I 88 2)], (I1, L3, X), 0, 0) _
        by_cases h14 : (I 88 2) = 0
        · refine yi_G_if1 true rfl (yi_eq_t h14) ?_
          refine yi_G_run 1 (51, [(4, .inl z5), (0, .inr (.inr (some 82))), (1, .inl se), (2, .inl p), (3, .inl da)], [.inl (-1)], (I1, L3, X), 0, 0) (fun _ => rfl) ?_
          exact yi_G_reti rfl rfl (⟨_, _, _, rfl, (fun p k hp => by rw [← w2, yi_u_ne _ _ (fun z => by omega)]), (fun p k hp => by rw [f4.1 p k (by omega)])⟩)
        · refine yi_G_if1 false rfl (yi_eq_f h14) ?_
          refine yi_G_run 1 (47, [(4, .inl z5), (0, .inr (.inr (some 82))), (1, .inl se), (2, .inl p), (3, .inl da)], [.inl z5], (I1, L3, X), 0, 0) (fun _ => rfl) ?_
          by_cases h15 : z5 = 0
          · refine yi_G_if1 false rfl (yi_ne_f h15) ?_
            refine yi_G_run 1 (51, [(4, .inl z5), (0, .inr (.inr (some 82))), (1, .inl se), (2, .inl p), (3, .inl da)], [.inl (-1)], (I1, L3, X), 0, 0) (fun _ => rfl) ?_
            exact yi_G_reti rfl rfl (⟨_, _, _, rfl, (fun p k hp => by rw [← w2, yi_u_ne _ _ (fun z => by omega)]), (fun p k hp => by rw [f4.1 p k (by omega)])⟩)
          · refine yi_G_if1 true rfl (yi_ne_t h15) ?_
            refine yi_G_run 3 (55, [(4, .inl z5), (0, .inr (.inr (some 82))), (1, .inl se), (2, .inl p), (3, .inl da)], [.inr (.inl se), .inr (.inr (some 82))], (I1, L3, X), 0, 0) (fun _ => rfl) ?_
            refine yi_G_put (58, [(4, .inl z5), (0, .inr (.inr (some 82))), (1, .inl se), (2, .inl p), (3, .inl da)], [], (I1, (yi_u L3 82 43 se), X), 0, 0) rfl (ym_plg hS rfl rfl) ?_
            generalize w17 : yi_u L3 82 43 se = L16
            refine yi_G_run 2 (61, [(4, .inl z5), (0, .inr (.inr (some 82))), (1, .inl se), (2, .inl p), (3, .inl da)], [.inl z5, .inr (.inr (some 82))], (I1, L16, X), 0, 0) (fun _ => rfl) ?_
            have cb := y_cb_b (fun j => L3 97 (512 * 39 + (j : Int)).toNat) (64 * (I1 82 25).toNat)
            have ct := y_ct (fun j => L3 97 (512 * 39 + (j : Int)).toNat) (I1 82 25).toNat (by omega)
            have zb : 0 ≤ z5 ∧ z5 ≤ 32768 := by rw [n7, ct]; omega
            refine yi_G_callv rfl rfl (ym_rcv hS) rfl (w_draw (by omega) hS (by omega) (by omega) ⟨(by rw [← w17, yi_u_eq]; omega), (by rw [← w17, yi_u_eq]; omega)⟩) ?_
            rintro _ ⟨z20, L18, rfl, h21, g22, f19⟩
            show yi_G zi_Ms d zi_m24 (64, [(4, .inl z5), (0, .inr (.inr (some 82))), (1, .inl se), (2, .inl p), (3, .inl da)], [.inl z20], (I1, L18, X), 0, 0) _
            refine yi_G_run 3 (69, [(6, .inl 0), (5, .inl z20), (4, .inl z5), (0, .inr (.inr (some 82))), (1, .inl se), (2, .inl p), (3, .inl da)], [], (I1, L18, X), 0, 0) (fun _ => rfl) ?_
            have pt69 : ∀ (m : Nat) (k : Int) (f : Int), (0 ≤ k) → (k ≤ 100000) → (0 ≤ f) → (k + ((y_cb (fun j => L18 97 (512 * 39 + (j : Int)).toNat) f.toNat : Nat) : Int) < ((y_cb (fun j => L18 97 (512 * 39 + (j : Int)).toNat) (64 * (I1 82 25).toNat) : Nat) : Int)) → ((yi_land (yi_lshr (L18 97 (512 * 39 + f / 64).toNat) (f % 64)) 1 = 1 → y_cb (fun j => L18 97 (512 * 39 + (j : Int)).toNat) (f + 1).toNat = y_cb (fun j => L18 97 (512 * 39 + (j : Int)).toNat) f.toNat + 1) ∧ (¬ yi_land (yi_lshr (L18 97 (512 * 39 + f / 64).toNat) (f % 64)) 1 = 1 → y_cb (fun j => L18 97 (512 * 39 + (j : Int)).toNat) (f + 1).toNat = y_cb (fun j => L18 97 (512 * 39 + (j : Int)).toNat) f.toNat)) → (64 * I1 82 25 - f).toNat = m → yi_G zi_Ms d zi_m24 (69, [(6, .inl f), (5, .inl k), (4, .inl z5), (0, .inr (.inr (some 82))), (1, .inl se), (2, .inl p), (3, .inl da)], [], (I1, L18, X), 0, 0) (fun r => ∃ z I' L', r = (some (.inl z), (I', L', X), 0, 0) ∧ (∀ p k, p ≠ 96 ∧ p ≠ 99 ∧ p ≠ 103 ∧ p ≠ 104 ∧ p ≠ 105 ∧ p ≠ 106 ∧ p ≠ 107 ∧ p ≠ 108 ∧ ¬ (p = 82 ∧ k = 0) ∧ ¬ (p = 82 ∧ k = 34) ∧ ¬ (p = 82 ∧ k = 35) ∧ ¬ (p = 82 ∧ k = 37) ∧ ¬ (p = 82 ∧ k = 40) → I' p k = I p k) ∧ (∀ p k, p ≠ 97 ∧ ¬ (p = 82 ∧ k = 43) → L' p k = L p k)) := by
              intro m69
              induction m69 using Nat.strongRecOn with
              | _ m69 ih69 =>
              intro k f k0 k9 f0 kk cs hm69
              refine yi_G_run 1 (71, [(6, .inl f), (5, .inl k), (4, .inl z5), (0, .inr (.inr (some 82))), (1, .inl se), (2, .inl p), (3, .inl da)], [.inl k], (I1, L18, X), 0, 0) (fun _ => rfl) ?_
              by_cases h23 : 0 < k
              · refine yi_G_if1 true rfl (yi_gt_t h23) ?_
                refine yi_G_run 4 (92, [(6, .inl f), (5, .inl k), (4, .inl z5), (0, .inr (.inr (some 82))), (1, .inl se), (2, .inl p), (3, .inl da)], [.inl f, .inl 39, .inr (.inr (some 82)), .inl k], (I1, L18, X), 0, 0) (fun _ => rfl) ?_
                have fl := y_fl kk k0 f0 (by omega)
                refine yi_G_callv rfl rfl (ym_rcv hS) rfl (c_isSet d (by omega) hS (by omega) (by omega) (by omega) (by omega) (by omega)) ?_
                rintro _ (⟨c24, rfl⟩ | ⟨c24, rfl⟩)
                · show yi_G zi_Ms d zi_m24 (95, [(6, .inl f), (5, .inl k), (4, .inl z5), (0, .inr (.inr (some 82))), (1, .inl se), (2, .inl p), (3, .inl da)], [.inl 1, .inl k], (I1, L18, X), 0, 0) _
                  refine yi_G_if1 false rfl (by decide) ?_
                  refine yi_G_run 2 (103, [(6, .inl f), (5, .inl k), (4, .inl z5), (0, .inr (.inr (some 82))), (1, .inl se), (2, .inl p), (3, .inl da)], [.inl 1, .inl k], (I1, L18, X), 0, 0) (fun _ => rfl) ?_
                  refine yi_G_isub rfl (k - 1) (yi_wn (by omega) (by omega)) ?_
                  refine yi_G_run 1 (106, [(5, .inl (k - 1)), (6, .inl f), (4, .inl z5), (0, .inr (.inr (some 82))), (1, .inl se), (2, .inl p), (3, .inl da)], [], (I1, L18, X), 0, 0) (fun _ => rfl) ?_
                  refine yi_G_iinc [(6, .inl (f + 1)), (5, .inl (k - 1)), (4, .inl z5), (0, .inr (.inr (some 82))), (1, .inl se), (2, .inl p), (3, .inl da)] rfl rfl rfl (by rw [show yi_w (f + 1) = f + 1 from (yi_wn (by omega) (by omega)).trans (by omega)]; rfl) ?_
                  refine yi_G_run 1 (69, [(6, .inl (f + 1)), (5, .inl (k - 1)), (4, .inl z5), (0, .inr (.inr (some 82))), (1, .inl se), (2, .inl p), (3, .inl da)], [], (I1, L18, X), 0, 0) (fun _ => rfl) ?_
                  exact ih69 _ (by omega) (k - 1) (f + 1) (by first | omega | contradiction) (by first | omega | contradiction) (by omega) (by first | (have u := cs.1 (by assumption); omega) | (have u := cs.2 (by assumption); omega) | contradiction) (y_cb_s _ (by omega)) rfl
                · show yi_G zi_Ms d zi_m24 (95, [(6, .inl f), (5, .inl k), (4, .inl z5), (0, .inr (.inr (some 82))), (1, .inl se), (2, .inl p), (3, .inl da)], [.inl 0, .inl k], (I1, L18, X), 0, 0) _
                  refine yi_G_if1 true rfl (by decide) ?_
                  refine yi_G_run 1 (103, [(6, .inl f), (5, .inl k), (4, .inl z5), (0, .inr (.inr (some 82))), (1, .inl se), (2, .inl p), (3, .inl da)], [.inl 0, .inl k], (I1, L18, X), 0, 0) (fun _ => rfl) ?_
                  refine yi_G_isub rfl (k - 0) (yi_wn (by omega) (by omega)) ?_
                  refine yi_G_run 1 (106, [(5, .inl (k - 0)), (6, .inl f), (4, .inl z5), (0, .inr (.inr (some 82))), (1, .inl se), (2, .inl p), (3, .inl da)], [], (I1, L18, X), 0, 0) (fun _ => rfl) ?_
                  refine yi_G_iinc [(6, .inl (f + 1)), (5, .inl (k - 0)), (4, .inl z5), (0, .inr (.inr (some 82))), (1, .inl se), (2, .inl p), (3, .inl da)] rfl rfl rfl (by rw [show yi_w (f + 1) = f + 1 from (yi_wn (by omega) (by omega)).trans (by omega)]; rfl) ?_
                  refine yi_G_run 1 (69, [(6, .inl (f + 1)), (5, .inl (k - 0)), (4, .inl z5), (0, .inr (.inr (some 82))), (1, .inl se), (2, .inl p), (3, .inl da)], [], (I1, L18, X), 0, 0) (fun _ => rfl) ?_
                  exact ih69 _ (by omega) (k - 0) (f + 1) (by first | omega | contradiction) (by first | omega | contradiction) (by omega) (by first | (have u := cs.1 (by assumption); omega) | (have u := cs.2 (by assumption); omega) | contradiction) (y_cb_s _ (by omega)) rfl
              · refine yi_G_if1 false rfl (yi_gt_f h23) ?_
                refine yi_G_run 3 (79, [(6, .inl f), (5, .inl k), (4, .inl z5), (0, .inr (.inr (some 82))), (1, .inl se), (2, .inl p), (3, .inl da)], [.inl f, .inl 39, .inr (.inr (some 82))], (I1, L18, X), 0, 0) (fun _ => rfl) ?_
                have fl := y_fl kk k0 f0 (by omega)
                refine yi_G_callv rfl rfl (ym_rcv hS) rfl (c_isSet d (by omega) hS (by omega) (by omega) (by omega) (by omega) (by omega)) ?_
                rintro _ (⟨c25, rfl⟩ | ⟨c25, rfl⟩)
                · show yi_G zi_Ms d zi_m24 (82, [(6, .inl f), (5, .inl k), (4, .inl z5), (0, .inr (.inr (some 82))), (1, .inl se), (2, .inl p), (3, .inl da)], [.inl 1], (I1, L18, X), 0, 0) _
                  refine yi_G_if1 true rfl (by decide) ?_
                  refine yi_G_run 2 (115, [(6, .inl f), (5, .inl k), (4, .inl z5), (0, .inr (.inr (some 82))), (1, .inl se), (2, .inl p), (3, .inl da)], [.inl f, .inr (.inr (some 82))], (I1, L18, X), 0, 0) (fun _ => rfl) ?_
                  have fl := y_fl kk k0 f0 (by omega)
                  refine yi_G_callv rfl rfl (ym_rcv hS) rfl (c_laysFuture d (by omega) hS (ym_LR_t (fun k => by rw [← w2, yi_u_ne _ _ (fun z => absurd z.1 (by decide))]) hLR) (ym_PW_t (fun k => by rw [← w2, yi_u_ne _ _ (fun z => absurd z.1 (by decide))]) (fun k => by rw [← w2, yi_u_ne _ _ (fun z => absurd z.1 (by decide))]) hPW) (by omega) (by omega)) ?_
                  rintro _ ⟨I26, rfl, f27, h28⟩
                  show yi_G zi_Ms d zi_m24 (118, [(6, .inl f), (5, .inl k), (4, .inl z5), (0, .inr (.inr (some 82))), (1, .inl se), (2, .inl p), (3, .inl da)], [], (I26, L18, X), 0, 0) _
                  refine yi_G_run 1 (119, [(6, .inl f), (5, .inl k), (4, .inl z5), (0, .inr (.inr (some 82))), (1, .inl se), (2, .inl p), (3, .inl da)], [.inr (.inr (some 82))], (I26, L18, X), 0, 0) (fun _ => rfl) ?_
                  refine yi_G_get (122, [(6, .inl f), (5, .inl k), (4, .inl z5), (0, .inr (.inr (some 82))), (1, .inl se), (2, .inl p), (3, .inl da)], [.inr (.inr (some 99))], (I26, L18, X), 0, 0) rfl (ym_gr hS 16 rfl rfl rfl) ?_
                  refine yi_G_run 1 (123, [(6, .inl f), (5, .inl k), (4, .inl z5), (0, .inr (.inr (some 82))), (1, .inl se), (2, .inl p), (3, .inl da)], [.inr (.inr (some 82)), .inr (.inr (some 99))], (I26, L18, X), 0, 0) (fun _ => rfl) ?_
                  have r29 : I26 88 1 = I 88 1 := by rw [f27 88 (1) (by omega), ← w2, yi_u_ne _ _ (by omega)]
                  refine yi_G_callv rfl rfl (ym_rcv hS) rfl (c_people d (by omega) hS r29) ?_
                  rintro _ rfl
                  show yi_G zi_Ms d zi_m24 (126, [(6, .inl f), (5, .inl k), (4, .inl z5), (0, .inr (.inr (some 82))), (1, .inl se), (2, .inl p), (3, .inl da)], [.inl (I 88 1), .inr (.inr (some 99))], (I26, L18, X), 0, 0) _
                  refine yi_G_run 2 (128, [(6, .inl f), (5, .inl k), (4, .inl z5), (0, .inr (.inr (some 82))), (1, .inl se), (2, .inl p), (3, .inl da)], [.inl 1, .inl da, .inl (I 88 1), .inr (.inr (some 99))], (I26, L18, X), 0, 0) (fun _ => rfl) ?_
                  refine yi_G_isub rfl (da - 1) (yi_wn (by omega) (by omega)) ?_
                  have mb30 := yi_mb (a := I 88 1) (b := da - 1) (A := 4) (B := 5) (by omega) (by omega) (by omega) (by omega)
                  refine yi_G_imul rfl ((I 88 1) * (da - 1)) (yi_wn (by omega) (by omega)) ?_
                  refine yi_G_run 1 (131, [(6, .inl f), (5, .inl k), (4, .inl z5), (0, .inr (.inr (some 82))), (1, .inl se), (2, .inl p), (3, .inl da)], [.inl p, .inl ((I 88 1) * (da - 1)), .inr (.inr (some 99))], (I26, L18, X), 0, 0) (fun _ => rfl) ?_
                  refine yi_G_iadd rfl (((I 88 1) * (da - 1)) + p) (yi_wn (by omega) (by omega)) ?_
                  refine yi_G_iald (133, [(6, .inl f), (5, .inl k), (4, .inl z5), (0, .inr (.inr (some 82))), (1, .inl se), (2, .inl p), (3, .inl da)], [.inl (I26 99 ((((I 88 1) * (da - 1)) + p).toNat))], (I26, L18, X), 0, 0) rfl (ym_li hS 16 rfl (by omega) (by omega) rfl) ?_
                  exact yi_G_reti rfl rfl (⟨_, _, _, rfl, (fun p k hp => by rw [f27 p k (by omega), ← w2, yi_u_ne _ _ (fun z => by omega)]), (fun p k hp => by rw [f19 p k (by omega), ← w17, yi_u_ne _ _ (fun z => by omega), f4.1 p k (by omega)])⟩)
                · show yi_G zi_Ms d zi_m24 (82, [(6, .inl f), (5, .inl k), (4, .inl z5), (0, .inr (.inr (some 82))), (1, .inl se), (2, .inl p), (3, .inl da)], [.inl 0], (I1, L18, X), 0, 0) _
                  refine yi_G_if1 false rfl (by decide) ?_
                  refine yi_G_run 4 (92, [(6, .inl f), (5, .inl k), (4, .inl z5), (0, .inr (.inr (some 82))), (1, .inl se), (2, .inl p), (3, .inl da)], [.inl f, .inl 39, .inr (.inr (some 82)), .inl k], (I1, L18, X), 0, 0) (fun _ => rfl) ?_
                  have fl := y_fl kk k0 f0 (by omega)
                  refine yi_G_callv rfl rfl (ym_rcv hS) rfl (c_isSet d (by omega) hS (by omega) (by omega) (by omega) (by omega) (by omega)) ?_
                  rintro _ (⟨c31, rfl⟩ | ⟨c31, rfl⟩)
                  · show yi_G zi_Ms d zi_m24 (95, [(6, .inl f), (5, .inl k), (4, .inl z5), (0, .inr (.inr (some 82))), (1, .inl se), (2, .inl p), (3, .inl da)], [.inl 1, .inl k], (I1, L18, X), 0, 0) _
                    refine yi_G_if1 false rfl (by decide) ?_
                    refine yi_G_run 2 (103, [(6, .inl f), (5, .inl k), (4, .inl z5), (0, .inr (.inr (some 82))), (1, .inl se), (2, .inl p), (3, .inl da)], [.inl 1, .inl k], (I1, L18, X), 0, 0) (fun _ => rfl) ?_
                    refine yi_G_isub rfl (k - 1) (yi_wn (by omega) (by omega)) ?_
                    refine yi_G_run 1 (106, [(5, .inl (k - 1)), (6, .inl f), (4, .inl z5), (0, .inr (.inr (some 82))), (1, .inl se), (2, .inl p), (3, .inl da)], [], (I1, L18, X), 0, 0) (fun _ => rfl) ?_
                    refine yi_G_iinc [(6, .inl (f + 1)), (5, .inl (k - 1)), (4, .inl z5), (0, .inr (.inr (some 82))), (1, .inl se), (2, .inl p), (3, .inl da)] rfl rfl rfl (by rw [show yi_w (f + 1) = f + 1 from (yi_wn (by omega) (by omega)).trans (by omega)]; rfl) ?_
                    refine yi_G_run 1 (69, [(6, .inl (f + 1)), (5, .inl (k - 1)), (4, .inl z5), (0, .inr (.inr (some 82))), (1, .inl se), (2, .inl p), (3, .inl da)], [], (I1, L18, X), 0, 0) (fun _ => rfl) ?_
                    exact ih69 _ (by omega) (k - 1) (f + 1) (by first | omega | contradiction) (by first | omega | contradiction) (by omega) (by first | (have u := cs.1 (by assumption); omega) | (have u := cs.2 (by assumption); omega) | contradiction) (y_cb_s _ (by omega)) rfl
                  · show yi_G zi_Ms d zi_m24 (95, [(6, .inl f), (5, .inl k), (4, .inl z5), (0, .inr (.inr (some 82))), (1, .inl se), (2, .inl p), (3, .inl da)], [.inl 0, .inl k], (I1, L18, X), 0, 0) _
                    refine yi_G_if1 true rfl (by decide) ?_
                    refine yi_G_run 1 (103, [(6, .inl f), (5, .inl k), (4, .inl z5), (0, .inr (.inr (some 82))), (1, .inl se), (2, .inl p), (3, .inl da)], [.inl 0, .inl k], (I1, L18, X), 0, 0) (fun _ => rfl) ?_
                    refine yi_G_isub rfl (k - 0) (yi_wn (by omega) (by omega)) ?_
                    refine yi_G_run 1 (106, [(5, .inl (k - 0)), (6, .inl f), (4, .inl z5), (0, .inr (.inr (some 82))), (1, .inl se), (2, .inl p), (3, .inl da)], [], (I1, L18, X), 0, 0) (fun _ => rfl) ?_
                    refine yi_G_iinc [(6, .inl (f + 1)), (5, .inl (k - 0)), (4, .inl z5), (0, .inr (.inr (some 82))), (1, .inl se), (2, .inl p), (3, .inl da)] rfl rfl rfl (by rw [show yi_w (f + 1) = f + 1 from (yi_wn (by omega) (by omega)).trans (by omega)]; rfl) ?_
                    refine yi_G_run 1 (69, [(6, .inl (f + 1)), (5, .inl (k - 0)), (4, .inl z5), (0, .inr (.inr (some 82))), (1, .inl se), (2, .inl p), (3, .inl da)], [], (I1, L18, X), 0, 0) (fun _ => rfl) ?_
                    exact ih69 _ (by omega) (k - 0) (f + 1) (by first | omega | contradiction) (by first | omega | contradiction) (by omega) (by first | (have u := cs.1 (by assumption); omega) | (have u := cs.2 (by assumption); omega) | contradiction) (y_cb_s _ (by omega)) rfl
            exact pt69 _ z20 0 (by first | omega | contradiction) (by first | omega | contradiction) (by omega) (by have eG : (fun j : Nat => L18 97 (512 * 39 + (j : Int)).toNat) = (fun j : Nat => L3 97 (512 * 39 + (j : Int)).toNat) := (by funext j; rw [f19 97 _ (by omega), ← w17, yi_u_ne _ _ (by omega)]); rw [eG]; have e0 : y_cb (fun j : Nat => L3 97 (512 * 39 + (j : Int)).toNat) (0 : Int).toNat = 0 := rfl; rw [e0]; omega) (y_cb_s _ (by omega)) rfl
      · show yi_G zi_Ms d zi_m24 (35, [(4, .inl z5), (0, .inr (.inr (some 82))), (1, .inl se), (2, .inl p), (3, .inl da)], [.inl 0], (I1, L3, X), 0, 0) _
        refine yi_G_if1 true rfl (by decide) ?_
        refine yi_G_run 1 (51, [(4, .inl z5), (0, .inr (.inr (some 82))), (1, .inl se), (2, .inl p), (3, .inl da)], [.inl (-1)], (I1, L3, X), 0, 0) (fun _ => rfl) ?_
        exact yi_G_reti rfl rfl (⟨_, _, _, rfl, (fun p k hp => by rw [← w2, yi_u_ne _ _ (fun z => by omega)]), (fun p k hp => by rw [f4.1 p k (by omega)])⟩)
    · show yi_G zi_Ms d zi_m24 (27, [(4, .inl z5), (0, .inr (.inr (some 82))), (1, .inl se), (2, .inl p), (3, .inl da)], [.inl 0], (I1, L3, X), 0, 0) _
      refine yi_G_if1 true rfl (by decide) ?_
      refine yi_G_run 1 (51, [(4, .inl z5), (0, .inr (.inr (some 82))), (1, .inl se), (2, .inl p), (3, .inl da)], [.inl (-1)], (I1, L3, X), 0, 0) (fun _ => rfl) ?_
      exact yi_G_reti rfl rfl (⟨_, _, _, rfl, (fun p k hp => by rw [← w2, yi_u_ne _ _ (fun z => by omega)]), (fun p k hp => by rw [f4.1 p k (by omega)])⟩)
  · show yi_G zi_Ms d zi_m24 (19, [(4, .inl z5), (0, .inr (.inr (some 82))), (1, .inl se), (2, .inl p), (3, .inl da)], [.inl 0], (I1, L3, X), 0, 0) _
    refine yi_G_if1 true rfl (by decide) ?_
    refine yi_G_run 1 (51, [(4, .inl z5), (0, .inr (.inr (some 82))), (1, .inl se), (2, .inl p), (3, .inl da)], [.inl (-1)], (I1, L3, X), 0, 0) (fun _ => rfl) ?_
    exact yi_G_reti rfl rfl (⟨_, _, _, rfl, (fun p k hp => by rw [← w2, yi_u_ne _ _ (fun z => by omega)]), (fun p k hp => by rw [f4.1 p k (by omega)])⟩)
theorem ym_fc_q {I L K : Nat → Nat → Int} {row : Int} {j : Nat} (hS0 : ym_S0 I) (hWB : ym_WB I) (hLR : ym_LR I) (hr : 33 ≤ row) (hj : j < 512) (h : ∀ q : Nat, ¬ (512 * row ≤ (q : Int) ∧ (q : Int) < 512 * row + 512) → K 97 q = L 97 q) : ∀ n : Nat, (n : Int) ≤ I 88 0 * I 88 1 → ym_fc I K j n = ym_fc I L j n
  | 0, _ => h _ (by omega)
  | n + 1, hn => by
    obtain ⟨l0, l1, l2, l3, l4, l5⟩ := id hLR
    have m1 := yi_mb (a := I 88 0) (b := I 88 1) (A := 6) (B := 4) (by omega) (by omega) (by omega) (by omega)
    have ih := ym_fc_q (j := j) hS0 hWB hLR hr hj h n (by omega)
    have e : ∀ Z : Nat → Nat → Int, ym_fc I Z j (n + 1) = if I 100 (44 + n) < 0 then ym_fc I Z j n else yi_land (ym_fc I Z j n) (Z 97 (512 * (I 88 2 * (n : Int) + I 100 (44 + n)) + (j : Int)).toNat) := fun _ => rfl
    have t4 := hS0.2.2.2.2 n (by omega) (by omega)
    rw [show (44 + (n : Int)).toNat = 44 + n by omega] at t4
    have mk := yi_mb (a := I 88 2) (b := (n : Int)) (A := 4) (B := 23) (by omega) (by omega) (by omega) (by omega)
    rw [e, e, ih]
    by_cases hc : I 100 (44 + n) < 0
    · rw [if_pos hc, if_pos hc]
    · have hw := hWB n (by omega) (by omega) (I 100 (44 + n)) (by omega) (by omega)
      rw [if_neg hc, if_neg hc, h _ (by omega)]
theorem ym_fa_q {I L K : Nat → Nat → Int} {row : Int} {j : Nat} (hS0 : ym_S0 I) (hWB : ym_WB I) (hLR : ym_LR I) (hr : 33 ≤ row) (hr2 : row ≤ 59) (hj : j < 512) (h : ∀ q : Nat, ¬ (512 * row ≤ (q : Int) ∧ (q : Int) < 512 * row + 512) → K 97 q = L 97 q) : ∀ s : Nat, ym_fa I K j s = ym_fa I L j s
  | 0 => by
    obtain ⟨l0, l1, l2, l3, l4, l5⟩ := id hLR
    have m1 := yi_mb (a := I 88 0) (b := I 88 1) (A := 6) (B := 4) (by omega) (by omega) (by omega) (by omega)
    exact ym_fc_q hS0 hWB hLR hr hj h _ (by omega)
  | s + 1 => by
    have ih := ym_fa_q (j := j) hS0 hWB hLR hr hr2 hj h s
    show yi_land (ym_fa I K j s) (K 97 (512 * (60 + (s : Int)) + (j : Int)).toNat) = yi_land (ym_fa I L j s) (L 97 (512 * (60 + (s : Int)) + (j : Int)).toNat)
    rw [ih, h _ (by omega)]
theorem ym_fa_s {I L : Nat → Nat → Int} {j : Nat} {k : Int} (h : 0 ≤ k) : ym_fa I L j (k + 1).toNat = yi_land (ym_fa I L j k.toNat) (L 97 (512 * (60 + k) + (j : Int)).toNat) := by
  obtain ⟨n, rfl⟩ : ∃ n : Nat, k = (n : Int) := ⟨k.toNat, by omega⟩
  rw [show ((n : Int) + 1).toNat = n + 1 by omega, Int.toNat_natCast]
  rfl
theorem ym_tgt {I : Nat → Nat → Int} (hWB : ym_WB I) {p da ev : Int} (hp : 0 ≤ p ∧ p < I 88 1) (hd : 1 ≤ da ∧ da ≤ I 88 0) (he : 0 ≤ ev ∧ ev < I 88 2) (h4 : I 88 2 ≤ 4) : I 88 2 * (I 88 1 * (da - 1) + p) + ev < 32 := by
  have m0 : 0 ≤ I 88 1 * (da - 1) := Int.mul_nonneg (by omega) (by omega)
  have m2 : I 88 1 * (da - 1) ≤ I 88 1 * (I 88 0 - 1) := Int.mul_le_mul_of_nonneg_left (by omega) (by omega)
  have m3 : I 88 1 * (I 88 0 - 1) = I 88 0 * I 88 1 - I 88 1 := by rw [Int.mul_sub, Int.mul_one, Int.mul_comm]
  exact hWB _ (by omega) (by omega) ev he.1 (by omega)
theorem ym_fgo {I L K : Nat → Nat → Int} {n sg told tgt : Int} (rx : ym_RX L K 59 n (fun j => ym_fa I L j (sg + 1).toNat)) (r9 : ∀ j : Nat, (j : Int) < n → L 97 (512 * 39 + (j : Int)).toNat = ym_fa I L j told.toNat) (t0 : 0 ≤ tgt) (t1 : tgt < 32) (hn : n ≤ 512) (al : ∀ j : Int, 0 ≤ j → j < n → yi_land (L 97 (512 * 39 + j).toNat) (yi_lxor (L 97 (512 * tgt + j).toNat) (-1)) = 0) (c : ¬ ∀ j : Int, 0 ≤ j → j < n → yi_land (K 97 (512 * 59 + j).toNat) (yi_lxor (K 97 (512 * tgt + j).toNat) (-1)) = 0) (s1 : sg + 1 ≤ told) : sg + 1 < told := by
  rcases (show sg + 1 = told ∨ sg + 1 < told by omega) with z | z
  · exfalso
    refine c (fun j h0 h1 => ?_)
    have e : _ = ym_fa I L j.toNat (sg + 1).toNat := rx.2.2 j.toNat (by omega)
    have e9 := r9 j.toNat (by omega)
    rw [show ((j.toNat : Nat) : Int) = j by omega] at e e9
    rw [e, rx.2.1 _ (by omega), z, ← e9]
    exact al j h0 h1
  · exact z
theorem q_first (D : Nat) (hD : 6 ≤ D) {I L : Nat → Nat → Int} {X : ym_X} (hS : ym_S X) {p da ev : Int} (hLR : ym_LR I) (hS0 : ym_S0 I) (hl : 0 ≤ I 82 25 ∧ I 82 25 ≤ 512) (hWB : ym_WB I) : yi_E zi_Ms D 34 [.inr (.inr (some 82)), .inl p, .inl da, .inl ev] (I, L, X) (fun r => ∃ z I' L', r = (some (.inl z), (I', L', X), 0, 0) ∧ (∀ p k, p ≠ 96 ∧ p ≠ 99 ∧ p ≠ 103 ∧ p ≠ 104 ∧ p ≠ 105 ∧ p ≠ 106 ∧ p ≠ 107 ∧ p ≠ 108 ∧ ¬ (p = 82 ∧ k = 0) ∧ ¬ (p = 82 ∧ k = 34) ∧ ¬ (p = 82 ∧ k = 35) ∧ ¬ (p = 82 ∧ k = 37) ∧ ¬ (p = 82 ∧ k = 40) → I' p k = I p k) ∧ (∀ p k, p ≠ 97 ∧ ¬ (p = 82 ∧ k = 43) → L' p k = L p k)) := by
  obtain ⟨d, rfl⟩ : ∃ d, D = d + 1 := ⟨D - 1, by omega⟩
  refine yi_E_of (M := zi_m34) rfl rfl ?_
  obtain ⟨l0, l1, l2, l3, l4, l5⟩ := id hLR
  obtain ⟨t0, t1, t2, t3, t4⟩ := id hS0
  show yi_G zi_Ms d zi_m34 (0, [(0, .inr (.inr (some 82))), (1, .inl p), (2, .inl da), (3, .inl ev)], [], (I, L, X), 0, 0) _
  refine yi_G_run 5 (5, [(0, .inr (.inr (some 82))), (1, .inl p), (2, .inl da), (3, .inl ev)], [.inl ev, .inl da, .inl p, .inr (.inr (some 82)), .inr (.inr (some 82))], (I, L, X), 0, 0) (fun _ => rfl) ?_
  refine yi_G_callv rfl rfl (ym_rcv hS) rfl (c_isWord3 d (by omega) hS rfl rfl rfl) ?_
  rintro _ (⟨c1, rfl⟩ | ⟨c1, rfl⟩)
  · show yi_G zi_Ms d zi_m34 (8, [(0, .inr (.inr (some 82))), (1, .inl p), (2, .inl da), (3, .inl ev)], [.inl 1, .inr (.inr (some 82))], (I, L, X), 0, 0) _
    refine yi_G_if1 false rfl (by decide) ?_
    refine yi_G_run 2 (16, [(0, .inr (.inr (some 82))), (1, .inl p), (2, .inl da), (3, .inl ev)], [.inl 0, .inr (.inr (some 82))], (I, L, X), 0, 0) (fun _ => rfl) ?_
    refine yi_G_put (19, [(0, .inr (.inr (some 82))), (1, .inl p), (2, .inl da), (3, .inl ev)], [], ((yi_u I 82 0 0), L, X), 0, 0) rfl (ym_pi hS rfl rfl) ?_
    generalize w3 : yi_u I 82 0 0 = I2
    refine yi_G_run 1 (20, [(0, .inr (.inr (some 82))), (1, .inl p), (2, .inl da), (3, .inl ev)], [.inr (.inr (some 82))], (I2, L, X), 0, 0) (fun _ => rfl) ?_
    have r4 : I2 82 0 = 0 := by rw [← w3, yi_u_eq]
    refine yi_G_get (23, [(0, .inr (.inr (some 82))), (1, .inl p), (2, .inl da), (3, .inl ev)], [.inl 0], (I2, L, X), 0, 0) rfl (ym_gi hS rfl rfl r4) ?_
    refine yi_G_if1 true rfl (by decide) ?_
    refine yi_G_run 4 (32, [(0, .inr (.inr (some 82))), (1, .inl p), (2, .inl da), (3, .inl ev)], [.inl ev, .inl da, .inl p, .inr (.inr (some 82))], (I2, L, X), 0, 0) (fun _ => rfl) ?_
    have r5 : I2 88 0 = I 88 0 := by rw [← w3, yi_u_ne _ _ (by omega)]
    have r6 : I2 88 1 = I 88 1 := by rw [← w3, yi_u_ne _ _ (by omega)]
    have r7 : I2 88 2 = I 88 2 := by rw [← w3, yi_u_ne _ _ (by omega)]
    refine yi_G_callv rfl rfl (ym_rcv hS) rfl (c_wordAt d (by omega) hS (ym_LR_t (fun k => by rw [← w3, yi_u_ne _ _ (fun z => absurd z.1 (by decide))]) hLR) (by omega) (by omega) (by omega) (by omega) (by omega) (by omega)) ?_
    rintro _ ⟨z8, rfl, h9a, h9b, h9c⟩
    have tg : z8 < 32 := by rw [h9c]; exact ym_tgt (ym_WB_t (fun k => by rw [← w3, yi_u_ne _ _ (fun z => absurd z.1 (by decide))]) hWB) (by omega) (by omega) (by omega) (by omega)
    show yi_G zi_Ms d zi_m34 (35, [(0, .inr (.inr (some 82))), (1, .inl p), (2, .inl da), (3, .inl ev)], [.inl z8], (I2, L, X), 0, 0) _
    refine yi_G_run 2 (38, [(4, .inl z8), (0, .inr (.inr (some 82))), (1, .inl p), (2, .inl da), (3, .inl ev)], [.inr (.inr (some 82))], (I2, L, X), 0, 0) (fun _ => rfl) ?_
    have r13 : I2 82 25 = I 82 25 := by rw [← w3, yi_u_ne _ _ (by omega)]
    refine yi_G_callv rfl rfl (ym_rcv hS) rfl (c_findLeftX d (by omega) hS (ym_LR_t (fun k => by rw [← w3, yi_u_ne _ _ (fun z => absurd z.1 (by decide))]) hLR) (ym_S0_t (fun k => by rw [← w3, yi_u_ne _ _ (fun z => absurd z.1 (by decide))]) hS0) (ym_WB_t (fun k => by rw [← w3, yi_u_ne _ _ (fun z => absurd z.1 (by decide))]) hWB) ⟨(by rw [r13]; omega), (by rw [r13]; omega)⟩) ?_
    rintro _ ⟨z12, L10, rfl, f11, n14⟩
    show yi_G zi_Ms d zi_m34 (41, [(4, .inl z8), (0, .inr (.inr (some 82))), (1, .inl p), (2, .inl da), (3, .inl ev)], [.inl z12], (I2, L10, X), 0, 0) _
    by_cases h15 : z12 = 0
    · refine yi_G_if1 true rfl (yi_eq_t h15) ?_
      refine yi_G_run 1 (56, [(4, .inl z8), (0, .inr (.inr (some 82))), (1, .inl p), (2, .inl da), (3, .inl ev)], [.inl (-1)], (I2, L10, X), 0, 0) (fun _ => rfl) ?_
      exact yi_G_reti rfl rfl (⟨_, _, _, rfl, (fun p k hp => by rw [← w3, yi_u_ne _ _ (fun z => by omega)]), (fun p k hp => by rw [f11.1 p k (by omega)])⟩)
    · refine yi_G_if1 false rfl (yi_eq_f h15) ?_
      refine yi_G_run 3 (49, [(4, .inl z8), (0, .inr (.inr (some 82))), (1, .inl p), (2, .inl da), (3, .inl ev)], [.inl z8, .inl 39, .inr (.inr (some 82))], (I2, L10, X), 0, 0) (fun _ => rfl) ?_
      have r16 : I2 82 25 = I 82 25 := by rw [← w3, yi_u_ne _ _ (by omega)]
      refine yi_G_callv rfl rfl (ym_rcv hS) rfl (c_isAll d (by omega) hS (by omega) (by omega) (by omega) (by omega) (by rw [r16]; omega) (by rw [r16]; omega)) ?_
      rintro _ (⟨ca, rfl⟩ | ⟨ca, rfl⟩)
      · show yi_G zi_Ms d zi_m34 (52, [(4, .inl z8), (0, .inr (.inr (some 82))), (1, .inl p), (2, .inl da), (3, .inl ev)], [.inl 1], (I2, L10, X), 0, 0) _
        refine yi_G_if1 true rfl (by decide) ?_
        refine yi_G_run 6 (65, [(5, .inl (-1)), (4, .inl z8), (0, .inr (.inr (some 82))), (1, .inl p), (2, .inl da), (3, .inl ev)], [.inl 1, .inl 0, .inl 59, .inr (.inr (some 82))], (I2, L10, X), 0, 0) (fun _ => rfl) ?_
        have r17 : I2 82 25 = I 82 25 := by rw [← w3, yi_u_ne _ _ (by omega)]
        have r18 : I2 100 0 = I 100 0 := by rw [← w3, yi_u_ne _ _ (by omega)]
        have rr9 : ∀ j : Nat, (j : Int) < I2 82 25 → L10 97 (512 * 39 + (j : Int)).toNat = ym_fa I2 L10 j (I2 100 0).toNat := fun j hj => (f11.2.2 j hj).trans (ym_fa_q (ym_S0_t (fun k => by rw [← w3, yi_u_ne _ _ (fun z => absurd z.1 (by decide))]) hS0) (ym_WB_t (fun k => by rw [← w3, yi_u_ne _ _ (fun z => absurd z.1 (by decide))]) hWB) (ym_LR_t (fun k => by rw [← w3, yi_u_ne _ _ (fun z => absurd z.1 (by decide))]) hLR) (by omega) (by omega) (by omega) f11.2.1 _).symm
        have r21 : I2 82 25 = I 82 25 := by rw [← w3, yi_u_ne _ _ (by omega)]
        refine yi_G_callv rfl rfl (ym_rcv hS) rfl (c_laysX d (by omega) hS (ym_LR_t (fun k => by rw [← w3, yi_u_ne _ _ (fun z => absurd z.1 (by decide))]) hLR) (ym_S0_t (fun k => by rw [← w3, yi_u_ne _ _ (fun z => absurd z.1 (by decide))]) hS0) (ym_WB_t (fun k => by rw [← w3, yi_u_ne _ _ (fun z => absurd z.1 (by decide))]) hWB) (by omega) (by omega) ⟨(by rw [r21]; omega), (by rw [r21]; omega)⟩) ?_
        rintro _ ⟨L19, rfl, f20⟩
        show yi_G zi_Ms d zi_m34 (68, [(5, .inl (-1)), (4, .inl z8), (0, .inr (.inr (some 82))), (1, .inl p), (2, .inl da), (3, .inl ev)], [], (I2, L19, X), 0, 0) _
        have pt68 : ∀ (m : Nat) (sg : Int) (Ka : Nat → Nat → Int), (∀ p k, p ≠ 97 → Ka p k = L19 p k) → (-1 ≤ sg) → (sg + 1 ≤ I2 100 0) → (ym_RX L10 Ka 59 (I2 82 25) (fun j => ym_fa I2 L10 j (sg + 1).toNat)) → (I2 100 0 - sg).toNat = m → yi_G zi_Ms d zi_m34 (68, [(5, .inl sg), (4, .inl z8), (0, .inr (.inr (some 82))), (1, .inl p), (2, .inl da), (3, .inl ev)], [], (I2, Ka, X), 0, 0) (fun r => ∃ z I' L', r = (some (.inl z), (I', L', X), 0, 0) ∧ (∀ p k, p ≠ 96 ∧ p ≠ 99 ∧ p ≠ 103 ∧ p ≠ 104 ∧ p ≠ 105 ∧ p ≠ 106 ∧ p ≠ 107 ∧ p ≠ 108 ∧ ¬ (p = 82 ∧ k = 0) ∧ ¬ (p = 82 ∧ k = 34) ∧ ¬ (p = 82 ∧ k = 35) ∧ ¬ (p = 82 ∧ k = 37) ∧ ¬ (p = 82 ∧ k = 40) → I' p k = I p k) ∧ (∀ p k, p ≠ 97 ∧ ¬ (p = 82 ∧ k = 43) → L' p k = L p k)) := by
          intro m68
          induction m68 using Nat.strongRecOn with
          | _ m68 ih68 =>
          intro sg Ka fKa s0 s1 rx hm68
          refine yi_G_run 3 (73, [(5, .inl sg), (4, .inl z8), (0, .inr (.inr (some 82))), (1, .inl p), (2, .inl da), (3, .inl ev)], [.inl z8, .inl 59, .inr (.inr (some 82))], (I2, Ka, X), 0, 0) (fun _ => rfl) ?_
          have r22 : I2 82 25 = I 82 25 := by rw [← w3, yi_u_ne _ _ (by omega)]
          have r23 : I2 100 0 = I 100 0 := by rw [← w3, yi_u_ne _ _ (by omega)]
          have r25 : I2 82 25 = I 82 25 := by rw [← w3, yi_u_ne _ _ (by omega)]
          refine yi_G_callv rfl rfl (ym_rcv hS) rfl (c_isAll d (by omega) hS (by omega) (by omega) (by omega) (by omega) (by rw [r25]; omega) (by rw [r25]; omega)) ?_
          rintro _ (⟨c24, rfl⟩ | ⟨c24, rfl⟩)
          · show yi_G zi_Ms d zi_m34 (76, [(5, .inl sg), (4, .inl z8), (0, .inr (.inr (some 82))), (1, .inl p), (2, .inl da), (3, .inl ev)], [.inl 1], (I2, Ka, X), 0, 0) _
            refine yi_G_if1 true rfl (by decide) ?_
            refine yi_G_run 1 (98, [(5, .inl sg), (4, .inl z8), (0, .inr (.inr (some 82))), (1, .inl p), (2, .inl da), (3, .inl ev)], [.inl sg], (I2, Ka, X), 0, 0) (fun _ => rfl) ?_
            by_cases h26 : 0 ≤ sg
            · refine yi_G_if1 true rfl (yi_ge_t h26) ?_
              refine yi_G_run 1 (108, [(5, .inl sg), (4, .inl z8), (0, .inr (.inr (some 82))), (1, .inl p), (2, .inl da), (3, .inl ev)], [.inl sg], (I2, Ka, X), 0, 0) (fun _ => rfl) ?_
              exact yi_G_reti rfl rfl (⟨_, _, _, rfl, (fun p k hp => by rw [← w3, yi_u_ne _ _ (fun z => by omega)]), (fun p k hp => by rw [fKa p k (by omega), f20.1 p k (by omega), f11.1 p k (by omega)])⟩)
            · refine yi_G_if1 false rfl (yi_ge_f h26) ?_
              refine yi_G_run 2 (108, [(5, .inl sg), (4, .inl z8), (0, .inr (.inr (some 82))), (1, .inl p), (2, .inl da), (3, .inl ev)], [.inl (-2)], (I2, Ka, X), 0, 0) (fun _ => rfl) ?_
              exact yi_G_reti rfl rfl (⟨_, _, _, rfl, (fun p k hp => by rw [← w3, yi_u_ne _ _ (fun z => by omega)]), (fun p k hp => by rw [fKa p k (by omega), f20.1 p k (by omega), f11.1 p k (by omega)])⟩)
          · have go := ym_fgo rx rr9 (by omega) tg (by omega) ca c24 (by omega)
            show yi_G zi_Ms d zi_m34 (76, [(5, .inl sg), (4, .inl z8), (0, .inr (.inr (some 82))), (1, .inl p), (2, .inl da), (3, .inl ev)], [.inl 0], (I2, Ka, X), 0, 0) _
            refine yi_G_if1 false rfl (by decide) ?_
            refine yi_G_iinc [(5, .inl (sg + 1)), (4, .inl z8), (0, .inr (.inr (some 82))), (1, .inl p), (2, .inl da), (3, .inl ev)] rfl rfl rfl (by rw [show yi_w (sg + 1) = sg + 1 from (yi_wn (by omega) (by omega)).trans (by omega)]; rfl) ?_
            refine yi_G_run 4 (89, [(5, .inl (sg + 1)), (4, .inl z8), (0, .inr (.inr (some 82))), (1, .inl p), (2, .inl da), (3, .inl ev)], [.inl (sg + 1), .inl 60, .inl 59, .inr (.inr (some 82))], (I2, Ka, X), 0, 0) (fun _ => rfl) ?_
            refine yi_G_iadd rfl (60 + (sg + 1)) (yi_wn (by omega) (by omega)) ?_
            have r30 : I2 82 25 = I 82 25 := by rw [← w3, yi_u_ne _ _ (by omega)]
            refine yi_G_callv rfl rfl (ym_rcv hS) rfl (c_meets d (by omega) hS (by omega) (by omega) (by omega) (by omega) (by rw [r30]; omega) (by rw [r30]; omega)) ?_
            rintro _ hr29
            obtain ⟨L27, exL27⟩ : ∃ z, z = ym_rw Ka 59 (I2 82 25) (fun j => yi_land (Ka 97 (512 * 59 + (j : Int)).toNat) (Ka 97 (512 * (60 + (sg + 1)) + (j : Int)).toNat)) := ⟨_, rfl⟩
            rw [← exL27] at hr29
            subst hr29
            have frL27 : ∀ p k, p ≠ 97 → L27 p k = Ka p k := fun p k hp => by rw [exL27]; exact ym_rw_p _ _ _ _ hp
            have f28 : ym_RX L10 L27 59 (I2 82 25) (fun j => ym_fa I2 L10 j (sg + 1 + 1).toNat) := by rw [exL27]; exact ym_RX_e (ym_RX_m rx (by omega) (by omega) (by omega) (by omega)) (fun j _ => (ym_fa_s (by omega)).symm)
            show yi_G zi_Ms d zi_m34 (93, [(5, .inl (sg + 1)), (4, .inl z8), (0, .inr (.inr (some 82))), (1, .inl p), (2, .inl da), (3, .inl ev)], [], (I2, L27, X), 0, 0) _
            refine yi_G_run 1 (68, [(5, .inl (sg + 1)), (4, .inl z8), (0, .inr (.inr (some 82))), (1, .inl p), (2, .inl da), (3, .inl ev)], [], (I2, L27, X), 0, 0) (fun _ => rfl) ?_
            exact ih68 _ (by omega) (sg + 1) L27 (fun p k hp => by rw [frL27 p k (by omega), fKa p k (by omega)]) (by omega) (by omega) f28 rfl
        exact pt68 _ (-1) L19 (fun _ _ _ => rfl) (by omega) (by omega) (ym_RX_e f20 (fun j _ => ym_fs_0 _ (by omega))) rfl
      · show yi_G zi_Ms d zi_m34 (52, [(4, .inl z8), (0, .inr (.inr (some 82))), (1, .inl p), (2, .inl da), (3, .inl ev)], [.inl 0], (I2, L10, X), 0, 0) _
        refine yi_G_if1 false rfl (by decide) ?_
        refine yi_G_run 1 (56, [(4, .inl z8), (0, .inr (.inr (some 82))), (1, .inl p), (2, .inl da), (3, .inl ev)], [.inl (-1)], (I2, L10, X), 0, 0) (fun _ => rfl) ?_
        exact yi_G_reti rfl rfl (⟨_, _, _, rfl, (fun p k hp => by rw [← w3, yi_u_ne _ _ (fun z => by omega)]), (fun p k hp => by rw [f11.1 p k (by omega)])⟩)
  · show yi_G zi_Ms d zi_m34 (8, [(0, .inr (.inr (some 82))), (1, .inl p), (2, .inl da), (3, .inl ev)], [.inl 0, .inr (.inr (some 82))], (I, L, X), 0, 0) _
    refine yi_G_if1 true rfl (by decide) ?_
    refine yi_G_run 1 (16, [(0, .inr (.inr (some 82))), (1, .inl p), (2, .inl da), (3, .inl ev)], [.inl 1, .inr (.inr (some 82))], (I, L, X), 0, 0) (fun _ => rfl) ?_
    refine yi_G_put (19, [(0, .inr (.inr (some 82))), (1, .inl p), (2, .inl da), (3, .inl ev)], [], ((yi_u I 82 0 1), L, X), 0, 0) rfl (ym_pi hS rfl rfl) ?_
    generalize w32 : yi_u I 82 0 1 = I31
    refine yi_G_run 1 (20, [(0, .inr (.inr (some 82))), (1, .inl p), (2, .inl da), (3, .inl ev)], [.inr (.inr (some 82))], (I31, L, X), 0, 0) (fun _ => rfl) ?_
    have r33 : I31 82 0 = 1 := by rw [← w32, yi_u_eq]
    refine yi_G_get (23, [(0, .inr (.inr (some 82))), (1, .inl p), (2, .inl da), (3, .inl ev)], [.inl 1], (I31, L, X), 0, 0) rfl (ym_gi hS rfl rfl r33) ?_
    refine yi_G_if1 false rfl (by decide) ?_
    refine yi_G_run 1 (27, [(0, .inr (.inr (some 82))), (1, .inl p), (2, .inl da), (3, .inl ev)], [.inl 0], (I31, L, X), 0, 0) (fun _ => rfl) ?_
    exact yi_G_reti rfl rfl (⟨_, _, _, rfl, (fun p k hp => by rw [← w32, yi_u_ne _ _ (fun z => by omega)]), (fun _ _ _ => rfl)⟩)
