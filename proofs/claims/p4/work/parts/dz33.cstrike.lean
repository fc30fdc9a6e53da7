/-! The class: struck, undone, marked. -/
theorem p_removeS {d : Nat} {I L : Nat → Nat → Int} {R : Nat → Nat → Option Nat} {Y : (Nat → Nat) × (Nat → Nat) × Nat} {p t : Nat} {x : Int} (hT : sy_T R Y p) (ht : I p 6 = (t : Int)) (h0 : 0 ≤ x) (hx : x < t) (ht2 : t ≤ 12) : yi_P zi_Ms d 286 [.inr (.inr (some p)), .inl x] (I, L, R, Y) (fun r => ∃ I' R', r = (none, (I', L, R', Y), 0, 0) ∧ I' p 6 = (t : Int) - 1 ∧ (∀ k, x.toNat ≤ k → k < t - 1 → R' (p + 1) k = R (p + 1) (k + 1)) ∧ (∀ q k, ¬ (q = p ∧ k = 6) → I' q k = I q k) ∧ (∀ q k, ¬ (q = p + 1 ∧ x.toNat ≤ k ∧ k < t - 1) → R' q k = R q k)) := by
  have z := p_removeSaying (d := d) (L := L) (x := x.toNat) hT ht (by omega) ht2
  rw [show ((x.toNat : Nat) : Int) = x by omega] at z
  exact z
theorem p_strike {d : Nat} {I L : Nat → Nat → Int} {R : Nat → Nat → Option Nat} {Y : (Nat → Nat) × (Nat → Nat) × Nat} {pf : Nat → Bool} {n da pe ev pr q c u : Nat} {S : ss_T} {A l : ss_R} {W : Nat → ss_R} {U : Nat → ss_T} {M : Nat → Option (ss_T × Option ss_R)} {aq : Option ss_R} (hW : ca_W I L R Y pf n da pe ev q A W) (hL : ca_L I L R Y pf n c l) (h50 : sc_S I L R Y pf n da pe pr 50 S) (hP : ck_P I L R Y pf n da pe pr u U M) (ha : sa_A I L R Y pf n 50 aq) (hb : da ≤ 6 ∧ pe ≤ 4 ∧ pr ≤ 5 ∧ S.1.1 ≤ 12 ∧ S.1.2.2 ≤ 20) {kd : Nat → Int} (h17 : I q 17 = (pr : Int)) (hr4 : R q 4 = some (q + 5)) (hkd : ∀ p, p < pr → I (q + 5) p = kd p) (hok : ss_ok da (da * pe) ev pr S) {x : Int} : yi_P zi_Ms d 177 [.inr (.inr (some 10)), .inl x] (I, L, R, Y) (fun r => (¬ ((0 ≤ x ∧ x < S.1.1) ∧ ¬ kd (S.2.1 x.toNat).1.toNat = 3) ∧ r = (some (.inl 0), (I, L, R, Y), 0, 0)) ∨ (((0 ≤ x ∧ x < S.1.1) ∧ ¬ kd (S.2.1 x.toNat).1.toNat = 3) ∧ ∃ I' L' R' Y' nc ns, r = (some (.inl 1), (I', L', R', Y'), nc, ns) ∧ ca_W I' L' R' Y' pf n da pe ev q A W ∧ ca_L I' L' R' Y' pf n c (lf (gd A W ev (ss_rm S x.toNat).2.2.2.2.1 (da * pe)) (ss_rm S x.toNat).2.2.1 (ss_rm S x.toNat).1.1) ∧ sc_S I' L' R' Y' pf n da pe pr 50 (ss_rm S x.toNat) ∧ ck_P I' L' R' Y' pf n da pe pr (us_n u) (us_p u U S) M ∧ sa_A I' L' R' Y' pf n 50 aq)) := by
  refine yi_P_of (M := zi_m177) rfl (fun d k => ?_)
  have hA := hW.1.1
  have hNA := hA.2.2.2
  obtain ⟨h16, hq, hqN, hq3, hda, hpe, hev⟩ := hW.2.1
  have bld := hW.2.2.1.1
  show yi_D zi_Ms d zi_m177 k (0, [(0, .inr (.inr (some 10))), (1, .inl x)], [], (I, L, R, Y), 0, 0) _
  refine yi_D_run 1 (1, [(0, .inr (.inr (some 10))), (1, .inl x)], [.inr (.inr (some 10))], (I, L, R, Y), 0, 0) (fun _ => rfl) ?_
  refine yi_D_gr (v := some 50) rfl rfl rfl (at_r hA (j := 6) rfl) (fun _ => ?_)
  refine yi_D_run 1 (5, [(0, .inr (.inr (some 10))), (1, .inl x)], [.inl x, .inr (.inr (some 50))], (I, L, R, Y), 0, 0) (fun _ => rfl) ?_
  refine yi_D_callv rfl (p_sayingAt h50.1 h50.2.1.1 (by omega)) ?_
  rintro _ (⟨hb1, rfl⟩ | ⟨hb2, rfl⟩)
  · obtain ⟨sy, s1, ⟨y1, y2, y3, y4⟩, ⟨v1, v2, v3⟩, sf, s4, s5⟩ := h50.2.2.2.1 x.toNat (by omega)
    rw [show (50 : Nat) + 1 = 51 from rfl] at s1 ⊢
    rw [s1]
    have who := hok.2.2.2.2.1 x.toNat (by omega)
    show yi_D zi_Ms d zi_m177 k (8, [(0, .inr (.inr (some 10))), (1, .inl x)], [.inr (.inr (some sy))], (I, L, R, Y), 0, 0) _
    refine yi_D_run 2 (10, [(2, .inr (.inr (some sy))), (0, .inr (.inr (some 10))), (1, .inl x)], [.inr (.inr (some sy))], (I, L, R, Y), 0, 0) (fun _ => rfl) ?_
    refine yi_D_ns rfl ?_
    refine yi_D_run 1 (14, [(2, .inr (.inr (some sy))), (0, .inr (.inr (some 10))), (1, .inl x)], [.inr (.inr (some 10))], (I, L, R, Y), 0, 0) (fun _ => rfl) ?_
    refine yi_D_gr (v := some q) rfl rfl rfl h16 (fun _ => ?_)
    refine yi_D_run 1 (18, [(2, .inr (.inr (some sy))), (0, .inr (.inr (some 10))), (1, .inl x)], [.inr (.inr (some sy)), .inr (.inr (some q))], (I, L, R, Y), 0, 0) (fun _ => rfl) ?_
    refine yi_D_gi (v := (S.2.1 x.toNat).1) rfl rfl (Nat.ble_eq_true_of_le (by omega)) v1 (fun _ => ?_)
    refine yi_D_callv rfl (p_kindOf hq h17 (by omega) hr4) ?_
    rintro _ rfl
    rw [if_pos (by omega), hkd _ (by omega)]
    show yi_D zi_Ms d zi_m177 k (24, [(2, .inr (.inr (some sy))), (0, .inr (.inr (some 10))), (1, .inl x)], [.inl (kd (S.2.1 x.toNat).1.toNat)], (I, L, R, Y), 0, 0) _
    refine yi_D_run 1 (25, [(2, .inr (.inr (some sy))), (0, .inr (.inr (some 10))), (1, .inl x)], [.inl 3, .inl (kd (S.2.1 x.toNat).1.toNat)], (I, L, R, Y), 0, 0) (fun _ => rfl) ?_
    by_cases h3 : (kd (S.2.1 x.toNat).1.toNat) = 3
    · refine yi_D_if2 false rfl (yi_ne_f h3) ?_
      refine yi_D_run 1 (29, [(2, .inr (.inr (some sy))), (0, .inr (.inr (some 10))), (1, .inl x)], [.inl 0], (I, L, R, Y), 0, 0) (fun _ => rfl) ?_
      refine yi_D_reti rfl ?_
      refine Or.inl ⟨?_, rfl⟩
      first
      | (intro h; omega)
      | (rintro ⟨h1, h2⟩; omega)
      | (rintro ⟨h1, h2⟩; exact h2 (by assumption))
    · refine yi_D_if2 true rfl (yi_ne_t h3) ?_
      refine yi_D_run 1 (31, [(2, .inr (.inr (some sy))), (0, .inr (.inr (some 10))), (1, .inl x)], [.inr (.inr (some 10))], (I, L, R, Y), 0, 0) (fun _ => rfl) ?_
      refine yi_D_callv rfl (p_remC hW hL h50 hP ha hb) ?_
      rintro _ ⟨I4, L5, R6, Y7, n8, m9, rfl, w10, l11, s12, p13, a14, K15, hq16⟩
      show yi_D zi_Ms d zi_m177 k (34, [(2, .inr (.inr (some sy))), (0, .inr (.inr (some 10))), (1, .inl x)], [], (I4, L5, R6, Y7), (0 + n8), (0 + m9)) _
      refine yi_D_run 1 (35, [(2, .inr (.inr (some sy))), (0, .inr (.inr (some 10))), (1, .inl x)], [.inr (.inr (some 10))], (I4, L5, R6, Y7), (0 + n8), (0 + m9)) (fun _ => rfl) ?_
      refine yi_D_gr (v := some 50) rfl rfl rfl (at_r w10.1.1 (j := 6) rfl) (fun _ => ?_)
      refine yi_D_run 1 (39, [(2, .inr (.inr (some sy))), (0, .inr (.inr (some 10))), (1, .inl x)], [.inl x, .inr (.inr (some 50))], (I4, L5, R6, Y7), (0 + n8), (0 + m9)) (fun _ => rfl) ?_
      refine yi_D_callv rfl (p_removeS s12.1 s12.2.1.1 (by omega) (by omega) (by omega)) ?_
      rintro _ ⟨I17, R18, rfl, e019, e120, fI21, fR22⟩
      have zz := ca_50 (I' := I17) (R' := R18) w10 l11 p13 (fun x k h => ⟨fI21 x k (by omega), fR22 x k (by omega)⟩) (fun k hk => fR22 50 k (by omega))
      have zs := sc_S_rm s12 zz.1 (show x.toNat < S.1.1 by omega) e019 e120 fI21 fR22
      have za := sa_A_t a14 zz.1 (fR22 50 5 (by omega))
      show yi_D zi_Ms d zi_m177 k (42, [(2, .inr (.inr (some sy))), (0, .inr (.inr (some 10))), (1, .inl x)], [], (I17, L5, R18, Y7), (0 + n8), (0 + m9)) _
      refine yi_D_run 1 (43, [(2, .inr (.inr (some sy))), (0, .inr (.inr (some 10))), (1, .inl x)], [.inr (.inr (some 10))], (I17, L5, R18, Y7), (0 + n8), (0 + m9)) (fun _ => rfl) ?_
      refine yi_D_callv rfl (p_leftC zz.2.1 zz.2.2.1 zs zz.2.2.2 za (show S.1.1 - 1 ≤ 12 by omega) hok.2.2.2.1) ?_
      rintro _ ⟨I23, L24, R25, Y26, n27, m28, rfl, w29, l30, s31, p32, a33⟩
      show yi_D zi_Ms d zi_m177 k (46, [(2, .inr (.inr (some sy))), (0, .inr (.inr (some 10))), (1, .inl x)], [], (I23, L24, R25, Y26), ((0 + n8) + n27), ((0 + m9) + m28)) _
      refine yi_D_run 1 (47, [(2, .inr (.inr (some sy))), (0, .inr (.inr (some 10))), (1, .inl x)], [.inl 1], (I23, L24, R25, Y26), ((0 + n8) + n27), ((0 + m9) + m28)) (fun _ => rfl) ?_
      refine yi_D_reti rfl ?_
      exact Or.inr ⟨⟨by omega, by assumption⟩, _, _, _, _, _, _, rfl, w29, l30, s31, p32, a33⟩
  · show yi_D zi_Ms d zi_m177 k (8, [(0, .inr (.inr (some 10))), (1, .inl x)], [.inr (.inr none)], (I, L, R, Y), 0, 0) _
    refine yi_D_run 2 (10, [(2, .inr (.inr none)), (0, .inr (.inr (some 10))), (1, .inl x)], [.inr (.inr none)], (I, L, R, Y), 0, 0) (fun _ => rfl) ?_
    refine yi_D_nn rfl ?_
    refine yi_D_run 1 (29, [(2, .inr (.inr none)), (0, .inr (.inr (some 10))), (1, .inl x)], [.inl 0], (I, L, R, Y), 0, 0) (fun _ => rfl) ?_
    refine yi_D_reti rfl ?_
    refine Or.inl ⟨?_, rfl⟩
    first
    | (intro h; omega)
    | (rintro ⟨h1, h2⟩; omega)
    | (rintro ⟨h1, h2⟩; exact h2 (by assumption))
