/-! One turn of the law's loop. -/
section YLB
variable {Ms : List zi_M} {d : Nat} {sl : List Int} {M : zi_M} {Q Q1 : yi_F → Prop}
theorem yi_L_bind {f : yi_F} (h : yi_L Ms d sl M f Q1) (k : ∀ g, Q1 g → yi_L Ms d sl M g Q) : yi_L Ms d sl M f Q := by
  obtain ⟨g, hg, k1, n1, e1⟩ := h
  obtain ⟨g2, hg2, k2, n2, e2⟩ := k g hg
  exact ⟨g2, hg2, k2 + k1, n1 + n2, fun n hn => yi_runs_add k1 k2 (e1 n (by omega)) (e2 n (by omega))⟩
end YLB
theorem lw_and63 (x : Int) : 0 ≤ yi_iand x 63 ∧ yi_iand x 63 ≤ 63 := by
  unfold yi_iand
  obtain ⟨j, hj, e⟩ := pk_andE (Int32.ofInt x) (m := 63) 6 (by decide)
  have e1 : Int32.ofInt 63 = 63 := by decide
  rw [e1, e, nI_toInt (by omega)]
  omega
theorem lw_J_n {n : Nat} {I L : cl_I} {R : cl_Rr} {Y : cl_Y} {nc ns : Nat} (h : lw_J n I L R Y nc ns) : lw_J (n + 1) I L R Y nc ns := by
  obtain ⟨j1, j2, j3, j4, j5, j6, j7⟩ := h
  refine ⟨j1, j2, j3, j4, j5, ⟨by omega, fun z => ?_⟩, ⟨by omega, fun z => ?_⟩⟩
  · have := j6.2 z
    omega
  · have := j7.2 z
    omega
theorem lw_K_n {n : Nat} {I L : cl_I} {R : cl_Rr} {Y : cl_Y} {nc ns : Nat} (h : lw_K n I L R Y nc ns) : lw_K (n + 1) I L R Y nc ns := ⟨lw_J_n h.1, h.2⟩
theorem lw_M_n {n : Nat} {I L : cl_I} {R : cl_Rr} {Y : cl_Y} {nc ns : Nat} (h : lw_M n I L R Y nc ns) : lw_M (n + 1) I L R Y nc ns := ⟨lw_K_n h.1, h.2⟩
def lw_N (n : Nat) (i : Int) (g : yi_F) : Prop := ∃ I L R Y nc ns, g = (23, [(4, .inl i), (3, .inr (.inr (some 109))), (2, .inr (.inr (some 82))), (1, .inr (.inr (some 10))), (0, .inr (.inr (some 8)))], [], (I, L, R, Y), nc, ns) ∧ lw_M n I L R Y nc ns
theorem lw_nx {sl : List Int} {n : Nat} {i : Int} (hi : 0 ≤ i) (hi2 : i ≤ 4000) {g : yi_F} (h : lw_Q n i g) : yi_L zi_Ms 60 sl zi_mlaw g (lw_N (n + 1) (i + 7)) := by
  obtain ⟨I, L, R, Y, nc, ns, rfl, hJ⟩ := h
  refine yi_L_iinc [(4, .inl (i + 7)), (3, .inr (.inr (some 109))), (2, .inr (.inr (some 82))), (1, .inr (.inr (some 10))), (0, .inr (.inr (some 8)))] rfl rfl rfl (by rw [show yi_w (i + 7) = i + 7 from yi_wn (by omega) (by omega)]; rfl) ?_
  refine yi_L_run 1 (23, [(4, .inl (i + 7)), (3, .inr (.inr (some 109))), (2, .inr (.inr (some 82))), (1, .inr (.inr (some 10))), (0, .inr (.inr (some 8)))], [], (I, L, R, Y), nc, ns) (fun _ => rfl) ?_
  exact yi_L_end ⟨I, L, R, Y, nc, ns, rfl, hJ⟩
theorem lw_it {sl : List Int} {n : Nat} {i : Int} (hi : 0 ≤ i) (h7 : i + 7 ≤ sl.length) (hL : sl.length ≤ 3584) {I L : cl_I} {R : cl_Rr} {Y : cl_Y} {nc ns : Nat} (hJ : lw_M n I L R Y nc ns) : yi_L zi_Ms 60 sl zi_mlaw (23, [(4, .inl i), (3, .inr (.inr (some 109))), (2, .inr (.inr (some 82))), (1, .inr (.inr (some 10))), (0, .inr (.inr (some 8)))], [], (I, L, R, Y), nc, ns) (fun g => lw_N (n + 1) (i + 7) g ∨ g = (996, [(4, .inl i), (3, .inr (.inr (some 109))), (2, .inr (.inr (some 82))), (1, .inr (.inr (some 10))), (0, .inr (.inr (some 8)))], [], (I, L, R, Y), nc, ns)) := by
  refine yi_L_run 2 (26, [(4, .inl i), (3, .inr (.inr (some 109))), (2, .inr (.inr (some 82))), (1, .inr (.inr (some 10))), (0, .inr (.inr (some 8)))], [.inr (.inr (some 8)), .inl i], (I, L, R, Y), nc, ns) (fun _ => rfl) ?_
  refine yi_L_len rfl (by omega) ?_
  refine yi_L_run 1 (29, [(4, .inl i), (3, .inr (.inr (some 109))), (2, .inr (.inr (some 82))), (1, .inr (.inr (some 10))), (0, .inr (.inr (some 8)))], [.inl 7, .inl (sl.length : Int), .inl i], (I, L, R, Y), nc, ns) (fun _ => rfl) ?_
  refine yi_L_isub rfl ((sl.length : Int) - 7) (yi_wn (by omega) (by omega)) ?_
  refine yi_L_if2 false rfl (yi_gt_f (show ¬ (sl.length : Int) - 7 < i by omega)) ?_
  refine yi_L_run 2 (36, [(4, .inl i), (3, .inr (.inr (some 109))), (2, .inr (.inr (some 82))), (1, .inr (.inr (some 10))), (0, .inr (.inr (some 8)))], [.inl i, .inr (.inr (some 8))], (I, L, R, Y), nc, ns) (fun _ => rfl) ?_
  refine yi_L_ald rfl (by omega) (by omega) ?_
  refine yi_L_run 2 (40, [(4, .inl i), (3, .inr (.inr (some 109))), (2, .inr (.inr (some 82))), (1, .inr (.inr (some 10))), (0, .inr (.inr (some 8)))], [.inl (yi_iand (sl.getD i.toNat 0) 63)], (I, L, R, Y), nc, ns) (fun _ => rfl) ?_
  have hb := lw_and63 (sl.getD i.toNat 0)
  generalize yi_iand (sl.getD i.toNat 0) 63 = w at hb ⊢
  have nx : ∀ g, lw_Q n i g → yi_L zi_Ms 60 sl zi_mlaw g (fun g => lw_N (n + 1) (i + 7) g ∨ g = (996, [(4, .inl i), (3, .inr (.inr (some 109))), (2, .inr (.inr (some 82))), (1, .inr (.inr (some 10))), (0, .inr (.inr (some 8)))], [], (I, L, R, Y), nc, ns)) := fun g hg => yi_L_bind (lw_nx hi (by omega) hg) (fun g2 h2 => yi_L_end (Or.inl h2))
  by_cases q0 : w = 0
  · refine yi_L_tsi 0 rfl (by omega) (by decide) rfl ?_
    exact yi_L_bind (lw_o0 hi h7 hL hJ) nx
  by_cases q1 : w = 1
  · refine yi_L_tsi 1 rfl (by omega) (by decide) rfl ?_
    exact yi_L_bind (lw_o1 hi h7 hL hJ) nx
  by_cases q2 : w = 2
  · refine yi_L_tsi 2 rfl (by omega) (by decide) rfl ?_
    exact yi_L_bind (lw_o2 hi h7 hL hJ) nx
  by_cases q3 : w = 3
  · refine yi_L_tsi 3 rfl (by omega) (by decide) rfl ?_
    exact yi_L_bind (lw_o3 hi h7 hL hJ) nx
  by_cases q4 : w = 4
  · refine yi_L_tsi 4 rfl (by omega) (by decide) rfl ?_
    exact yi_L_bind (lw_o4 hi h7 hL hJ) nx
  by_cases q5 : w = 5
  · refine yi_L_tsi 5 rfl (by omega) (by decide) rfl ?_
    exact yi_L_bind (lw_o5 hi h7 hL hJ) nx
  by_cases q6 : w = 6
  · refine yi_L_tsi 6 rfl (by omega) (by decide) rfl ?_
    exact yi_L_bind (lw_o6 hi h7 hL hJ) nx
  by_cases q7 : w = 7
  · refine yi_L_tsi 7 rfl (by omega) (by decide) rfl ?_
    exact yi_L_bind (lw_o7 hi h7 hL hJ) nx
  by_cases q8 : w = 8
  · refine yi_L_tsi 8 rfl (by omega) (by decide) rfl ?_
    exact yi_L_bind (lw_o8 hi h7 hL hJ) nx
  by_cases q9 : w = 9
  · refine yi_L_tsi 9 rfl (by omega) (by decide) rfl ?_
    exact yi_L_bind (lw_o9 hi h7 hL hJ) nx
  by_cases q10 : w = 10
  · refine yi_L_tsi 10 rfl (by omega) (by decide) rfl ?_
    exact yi_L_bind (lw_o10 hi h7 hL hJ) nx
  by_cases q11 : w = 11
  · refine yi_L_tsi 11 rfl (by omega) (by decide) rfl ?_
    exact yi_L_bind (lw_o11 hi h7 hL hJ) nx
  by_cases q12 : w = 12
  · refine yi_L_tsi 12 rfl (by omega) (by decide) rfl ?_
    exact yi_L_bind (lw_o12 hi h7 hL hJ) nx
  by_cases q13 : w = 13
  · refine yi_L_tsi 13 rfl (by omega) (by decide) rfl ?_
    exact yi_L_bind (lw_o13 hi h7 hL hJ) nx
  by_cases q14 : w = 14
  · refine yi_L_tsi 14 rfl (by omega) (by decide) rfl ?_
    exact yi_L_bind (lw_o14 hi h7 hL hJ) nx
  by_cases q15 : w = 15
  · refine yi_L_tsi 15 rfl (by omega) (by decide) rfl ?_
    exact yi_L_bind (lw_o15 hi h7 hL hJ) nx
  by_cases q16 : w = 16
  · refine yi_L_tsi 16 rfl (by omega) (by decide) rfl ?_
    exact yi_L_bind (lw_o16 hi h7 hL hJ) nx
  by_cases q17 : w = 17
  · refine yi_L_tsi 17 rfl (by omega) (by decide) rfl ?_
    exact yi_L_bind (lw_o17 hi h7 hL hJ) nx
  by_cases q18 : w = 18
  · refine yi_L_tsi 18 rfl (by omega) (by decide) rfl ?_
    exact yi_L_bind (lw_o18 hi h7 hL hJ) nx
  by_cases q19 : w = 19
  · refine yi_L_tsi 19 rfl (by omega) (by decide) rfl ?_
    exact yi_L_bind (lw_o19 hi h7 hL hJ) nx
  by_cases q20 : w = 20
  · refine yi_L_tsi 20 rfl (by omega) (by decide) rfl ?_
    exact yi_L_bind (lw_o20 hi h7 hL hJ) nx
  by_cases q21 : w = 21
  · refine yi_L_tsi 21 rfl (by omega) (by decide) rfl ?_
    exact yi_L_bind (lw_o21 hi h7 hL hJ) nx
  by_cases q22 : w = 22
  · refine yi_L_tsi 22 rfl (by omega) (by decide) rfl ?_
    exact yi_L_end (Or.inr rfl)
  by_cases q23 : w = 23
  · refine yi_L_tsi 23 rfl (by omega) (by decide) rfl ?_
    exact yi_L_bind (lw_o23 hi h7 hL hJ) nx
  by_cases q24 : w = 24
  · refine yi_L_tsi 24 rfl (by omega) (by decide) rfl ?_
    exact yi_L_bind (lw_o24 hi h7 hL hJ) nx
  by_cases q25 : w = 25
  · refine yi_L_tsi 25 rfl (by omega) (by decide) rfl ?_
    exact yi_L_bind (lw_o25 hi h7 hL hJ) nx
  by_cases q26 : w = 26
  · refine yi_L_tsi 26 rfl (by omega) (by decide) rfl ?_
    exact yi_L_bind (lw_o26 hi h7 hL hJ) nx
  by_cases q27 : w = 27
  · refine yi_L_tsi 27 rfl (by omega) (by decide) rfl ?_
    exact yi_L_bind (lw_o27 hi h7 hL hJ) nx
  by_cases q28 : w = 28
  · refine yi_L_tsi 28 rfl (by omega) (by decide) rfl ?_
    exact yi_L_bind (lw_o28 hi h7 hL hJ) nx
  by_cases q29 : w = 29
  · refine yi_L_tsi 29 rfl (by omega) (by decide) rfl ?_
    exact yi_L_bind (lw_o29 hi h7 hL hJ) nx
  by_cases q30 : w = 30
  · refine yi_L_tsi 30 rfl (by omega) (by decide) rfl ?_
    exact yi_L_bind (lw_o30 hi h7 hL hJ) nx
  by_cases q31 : w = 31
  · refine yi_L_tsi 31 rfl (by omega) (by decide) rfl ?_
    exact yi_L_bind (lw_o31 hi h7 hL hJ) nx
  by_cases q32 : w = 32
  · refine yi_L_tsi 32 rfl (by omega) (by decide) rfl ?_
    exact yi_L_bind (lw_o32 hi h7 hL hJ) nx
  refine yi_L_tso rfl (by omega) ?_
  exact nx _ ⟨I, L, R, Y, nc, ns, rfl, lw_M_n hJ⟩
theorem lw_ex {sl : List Int} {i : Int} (hi : 0 ≤ i) (hi2 : i ≤ 4000) (h1 : 1 ≤ sl.length) (h7 : ¬ i + 7 ≤ sl.length) (hL : sl.length ≤ 3584) {I L : cl_I} {R : cl_Rr} {Y : cl_Y} {nc ns : Nat} : yi_L zi_Ms 60 sl zi_mlaw (23, [(4, .inl i), (3, .inr (.inr (some 109))), (2, .inr (.inr (some 82))), (1, .inr (.inr (some 10))), (0, .inr (.inr (some 8)))], [], (I, L, R, Y), nc, ns) (fun g => g = (1405, [(4, .inl i), (3, .inr (.inr (some 109))), (2, .inr (.inr (some 82))), (1, .inr (.inr (some 10))), (0, .inr (.inr (some 8)))], [.inl 1], (I, L, R, Y), nc, ns)) := by
  refine yi_L_run 2 (26, [(4, .inl i), (3, .inr (.inr (some 109))), (2, .inr (.inr (some 82))), (1, .inr (.inr (some 10))), (0, .inr (.inr (some 8)))], [.inr (.inr (some 8)), .inl i], (I, L, R, Y), nc, ns) (fun _ => rfl) ?_
  refine yi_L_len rfl (by omega) ?_
  refine yi_L_run 1 (29, [(4, .inl i), (3, .inr (.inr (some 109))), (2, .inr (.inr (some 82))), (1, .inr (.inr (some 10))), (0, .inr (.inr (some 8)))], [.inl 7, .inl (sl.length : Int), .inl i], (I, L, R, Y), nc, ns) (fun _ => rfl) ?_
  refine yi_L_isub rfl ((sl.length : Int) - 7) (yi_wn (by omega) (by omega)) ?_
  refine yi_L_if2 true rfl (yi_gt_t (show (sl.length : Int) - 7 < i by omega)) ?_
  refine yi_L_run 1 (1405, [(4, .inl i), (3, .inr (.inr (some 109))), (2, .inr (.inr (some 82))), (1, .inr (.inr (some 10))), (0, .inr (.inr (some 8)))], [.inl 1], (I, L, R, Y), nc, ns) (fun _ => rfl) ?_
  exact yi_L_end rfl
theorem lw_f1 {sl : List Int} {i : Int} (hi : 0 ≤ i) (h7 : i + 7 ≤ sl.length) (hL : sl.length ≤ 3584) {I L : cl_I} {R : cl_Rr} {Y : cl_Y} {nc ns : Nat} : yi_L zi_Ms 60 sl zi_mlaw (996, [(4, .inl i), (3, .inr (.inr (some 109))), (2, .inr (.inr (some 82))), (1, .inr (.inr (some 10))), (0, .inr (.inr (some 8)))], [], (I, L, R, Y), nc, ns) (fun g => g = (1016, [(4, .inl i), (3, .inr (.inr (some 109))), (2, .inr (.inr (some 82))), (1, .inr (.inr (some 10))), (0, .inr (.inr (some 8)))], [.inr (.inr (some 109)), .inl (sl.getD (i + 3).toNat 0), .inl (sl.getD (i + 2).toNat 0), .inl (sl.getD (i + 1).toNat 0), .inr (.inr (some 10))], (I, L, R, Y), nc, ns)) := by
  refine yi_L_run 4 (1001, [(4, .inl i), (3, .inr (.inr (some 109))), (2, .inr (.inr (some 82))), (1, .inr (.inr (some 10))), (0, .inr (.inr (some 8)))], [.inl (1), .inl (i), .inr (.inr (some 8)), .inr (.inr (some 10))], (I, L, R, Y), nc, ns) (fun _ => rfl) ?_
  refine yi_L_iadd rfl (i + 1) (yi_wn (by omega) (by omega)) ?_
  refine yi_L_ald rfl (by omega) (by omega) ?_
  refine yi_L_run 3 (1007, [(4, .inl i), (3, .inr (.inr (some 109))), (2, .inr (.inr (some 82))), (1, .inr (.inr (some 10))), (0, .inr (.inr (some 8)))], [.inl (2), .inl (i), .inr (.inr (some 8)), .inl (sl.getD (i + 1).toNat 0), .inr (.inr (some 10))], (I, L, R, Y), nc, ns) (fun _ => rfl) ?_
  refine yi_L_iadd rfl (i + 2) (yi_wn (by omega) (by omega)) ?_
  refine yi_L_ald rfl (by omega) (by omega) ?_
  refine yi_L_run 3 (1013, [(4, .inl i), (3, .inr (.inr (some 109))), (2, .inr (.inr (some 82))), (1, .inr (.inr (some 10))), (0, .inr (.inr (some 8)))], [.inl (3), .inl (i), .inr (.inr (some 8)), .inl (sl.getD (i + 2).toNat 0), .inl (sl.getD (i + 1).toNat 0), .inr (.inr (some 10))], (I, L, R, Y), nc, ns) (fun _ => rfl) ?_
  refine yi_L_iadd rfl (i + 3) (yi_wn (by omega) (by omega)) ?_
  refine yi_L_ald rfl (by omega) (by omega) ?_
  refine yi_L_run 1 (1016, [(4, .inl i), (3, .inr (.inr (some 109))), (2, .inr (.inr (some 82))), (1, .inr (.inr (some 10))), (0, .inr (.inr (some 8)))], [.inr (.inr (some 109)), .inl (sl.getD (i + 3).toNat 0), .inl (sl.getD (i + 2).toNat 0), .inl (sl.getD (i + 1).toNat 0), .inr (.inr (some 10))], (I, L, R, Y), nc, ns) (fun _ => rfl) ?_
  exact yi_L_end rfl
theorem lw_f2 {sl : List Int} {n : Nat} {i kk : Int} (hi : 0 ≤ i) (h7 : i + 7 ≤ sl.length) (hL : sl.length ≤ 3584) {I L : cl_I} {R : cl_Rr} {Y : cl_Y} {nc ns : Nat} (hS : ym_S (R, Y)) (hI : ym_IV I) (hm : mn_I R Y) (hN : 110 ≤ Y.2.2) : yi_L zi_Ms 60 sl zi_mlaw (1019, [(4, .inl i), (3, .inr (.inr (some 109))), (2, .inr (.inr (some 82))), (1, .inr (.inr (some 10))), (0, .inr (.inr (some 8)))], [.inl kk], (I, L, R, Y), nc, ns) (fun g => ∃ z2 I2 L2, g = (1398, (6, .inl z2) :: (5, .inl kk) :: [(4, .inl i), (3, .inr (.inr (some 109))), (2, .inr (.inr (some 82))), (1, .inr (.inr (some 10))), (0, .inr (.inr (some 8)))], [], (I2, L2, R, Y), nc + 0, ns + 0) ∧ mn_H I I2 R Y ∧ ym_MF I L I2 L2 ∧ ym_IV I2 ∧ I2 82 2 = I 82 2 ∧ ym_MT I L I2 L2) := by
  refine yi_L_run 1 (1021, ((5, .inl kk) :: [(4, .inl i), (3, .inr (.inr (some 109))), (2, .inr (.inr (some 82))), (1, .inr (.inr (some 10))), (0, .inr (.inr (some 8)))]), [], (I, L, R, Y), nc, ns) (fun _ => rfl) ?_
  refine yi_L_run 4 (1026, ((5, .inl kk) :: [(4, .inl i), (3, .inr (.inr (some 109))), (2, .inr (.inr (some 82))), (1, .inr (.inr (some 10))), (0, .inr (.inr (some 8)))]), [.inl (1), .inl (i), .inr (.inr (some 8)), .inr (.inr (some 82))], (I, L, R, Y), nc, ns) (fun _ => rfl) ?_
  refine yi_L_iadd rfl (i + 1) (yi_wn (by omega) (by omega)) ?_
  refine yi_L_ald rfl (by omega) (by omega) ?_
  refine yi_L_run 3 (1032, ((5, .inl kk) :: [(4, .inl i), (3, .inr (.inr (some 109))), (2, .inr (.inr (some 82))), (1, .inr (.inr (some 10))), (0, .inr (.inr (some 8)))]), [.inl (2), .inl (i), .inr (.inr (some 8)), .inl (sl.getD (i + 1).toNat 0), .inr (.inr (some 82))], (I, L, R, Y), nc, ns) (fun _ => rfl) ?_
  refine yi_L_iadd rfl (i + 2) (yi_wn (by omega) (by omega)) ?_
  refine yi_L_ald rfl (by omega) (by omega) ?_
  refine yi_L_run 3 (1038, ((5, .inl kk) :: [(4, .inl i), (3, .inr (.inr (some 109))), (2, .inr (.inr (some 82))), (1, .inr (.inr (some 10))), (0, .inr (.inr (some 8)))]), [.inl (3), .inl (i), .inr (.inr (some 8)), .inl (sl.getD (i + 2).toNat 0), .inl (sl.getD (i + 1).toNat 0), .inr (.inr (some 82))], (I, L, R, Y), nc, ns) (fun _ => rfl) ?_
  refine yi_L_iadd rfl (i + 3) (yi_wn (by omega) (by omega)) ?_
  refine yi_L_ald rfl (by omega) (by omega) ?_
  skip
  refine yi_L_callv rfl rfl (ym_rcv hS) rfl (show yi_E zi_Ms 60 34 [.inr (.inr (some 82)), .inl (sl.getD (i + 1).toNat 0), .inl (sl.getD (i + 2).toNat 0), .inl (sl.getD (i + 3).toNat 0)] (I, L, R, Y) _ from yi_E_P (m_first _ _ _ hS hI) (mn_P hm (by decide +kernel) (mn_vn (mn_vp (by omega) (by omega)) (mn_vn (mn_vi _) (mn_vn (mn_vi _) (mn_vn (mn_vi _) mn_v0)))))) ?_
  rintro _ ⟨⟨z2, I2, L2, rfl, mf, iv, e2⟩, hm2⟩
  show yi_L zi_Ms 60 sl zi_mlaw (1043, ((5, .inl kk) :: [(4, .inl i), (3, .inr (.inr (some 109))), (2, .inr (.inr (some 82))), (1, .inr (.inr (some 10))), (0, .inr (.inr (some 8)))]), [.inl z2], (I2, L2, R, Y), nc + 0, ns + 0) _
  refine yi_L_run 2 (1398, (6, .inl z2) :: (5, .inl kk) :: [(4, .inl i), (3, .inr (.inr (some 109))), (2, .inr (.inr (some 82))), (1, .inr (.inr (some 10))), (0, .inr (.inr (some 8)))], [], (I2, L2, R, Y), nc + 0, ns + 0) (fun _ => rfl) ?_
  exact yi_L_end ⟨z2, I2, L2, rfl, hm2, mf, iv, e2⟩
