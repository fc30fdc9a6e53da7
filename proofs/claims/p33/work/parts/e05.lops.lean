/-! The law, call by call. -/
theorem yi_L_ldc2 {Ms : List zi_M} {d : Nat} {sl : List Int} {M : zi_M} {Q : yi_F → Prop} {pc n : Nat} {al : List (Nat × yi_V)} {st : List yi_V} {H : yi_H} {nc ns : Nat} {j v : Nat} {o : List Nat} (z : Int) (h1 : zi_lk2 pc M.2.2.2.2.1 = some (.ldc2_w j, n, v :: o)) (hz : yi_W v = z) (hg : yi_L Ms d sl M (pc + n, al, .inr (.inl z) :: st, H, nc, ns) Q) : yi_L Ms d sl M (pc, al, st, H, nc, ns) Q := yi_L_s _ h1 (fun _ => by rw [← hz]; rfl) hg
def lw_M (n : Nat) (I L : cl_I) (R : cl_Rr) (Y : cl_Y) (nc ns : Nat) : Prop := lw_K n I L R Y nc ns ∧ lw_W I R Y
def lw_Q (n : Nat) (i : Int) (g : yi_F) : Prop := ∃ I L R Y nc ns, g = (1398, [(4, .inl i), (3, .inr (.inr (some 109))), (2, .inr (.inr (some 82))), (1, .inr (.inr (some 10))), (0, .inr (.inr (some 8)))], [], (I, L, R, Y), nc, ns) ∧ lw_M (n + 1) I L R Y nc ns
theorem lw_fd {I I1 I2 : cl_I} {va vb vc : Int} (hx : I1 12 5 = ym_ly (fun k => yi_w (yi_land (yi_lushr vc k) 255)) (ym_ly (fun k => yi_w (yi_land (yi_lushr vb k) 255)) (ym_ly (fun k => yi_w (yi_land (yi_lushr va k) 255)) (I 12 5) 8) 8) 8) (hm : I2 82 2 = ym_ly (fun k => yi_iand (yi_w (yi_lshr vc k)) 255) (ym_ly (fun k => yi_iand (yi_w (yi_lshr vb k)) 255) (ym_ly (fun k => yi_iand (yi_w (yi_lshr va k)) 255) (I1 82 2) 8) 8) 8) (e : I1 82 2 = I 82 2) (j4 : I 12 5 = I 82 2) : I2 82 2 = I1 12 5 := by
  rw [hm, hx, e, ← j4, lw_ly 8 (Nat.le_refl _), lw_ly 8 (Nat.le_refl _), lw_ly 8 (Nat.le_refl _)]
theorem lw_o0 {sl : List Int} {n : Nat} {i : Int} (hi : 0 ≤ i) (h7 : i + 7 ≤ sl.length) (hL : sl.length ≤ 3584) {I L : cl_I} {R : cl_Rr} {Y : cl_Y} {nc ns : Nat} (hM : lw_M n I L R Y nc ns) : yi_L zi_Ms 60 sl zi_mlaw (188, [(4, .inl i), (3, .inr (.inr (some 109))), (2, .inr (.inr (some 82))), (1, .inr (.inr (some 10))), (0, .inr (.inr (some 8)))], [], (I, L, R, Y), nc, ns) (lw_Q n i) := by
  obtain ⟨hJ, hW⟩ := hM
  have hN := hJ.1.1.2.2.1.1
  refine yi_L_run 4 (193, [(4, .inl i), (3, .inr (.inr (some 109))), (2, .inr (.inr (some 82))), (1, .inr (.inr (some 10))), (0, .inr (.inr (some 8)))], [.inl (1), .inl (i), .inr (.inr (some 8)), .inr (.inr (some 10))], (I, L, R, Y), nc, ns) (fun _ => rfl) ?_
  refine yi_L_iadd rfl (i + 1) (yi_wn (by omega) (by omega)) ?_
  refine yi_L_ald rfl (by omega) (by omega) ?_
  refine yi_L_run 6 (203, [(4, .inl i), (3, .inr (.inr (some 109))), (2, .inr (.inr (some 82))), (1, .inr (.inr (some 10))), (0, .inr (.inr (some 8)))], [.inl (2), .inl (i), .inr (.inr (some 8)), .inr (.inl (yi_lshl (sl.getD (i + 1).toNat 0) 32)), .inr (.inr (some 10))], (I, L, R, Y), nc, ns) (fun _ => rfl) ?_
  refine yi_L_iadd rfl (i + 2) (yi_wn (by omega) (by omega)) ?_
  refine yi_L_ald rfl (by omega) (by omega) ?_
  refine yi_L_run 1 (206, [(4, .inl i), (3, .inr (.inr (some 109))), (2, .inr (.inr (some 82))), (1, .inr (.inr (some 10))), (0, .inr (.inr (some 8)))], [.inr (.inl (sl.getD (i + 2).toNat 0)), .inr (.inl (yi_lshl (sl.getD (i + 1).toNat 0) 32)), .inr (.inr (some 10))], (I, L, R, Y), nc, ns) (fun _ => rfl) ?_
  refine yi_L_ldc2 (4294967295) rfl (by decide +kernel) ?_
  refine yi_L_run 5 (215, [(4, .inl i), (3, .inr (.inr (some 109))), (2, .inr (.inr (some 82))), (1, .inr (.inr (some 10))), (0, .inr (.inr (some 8)))], [.inl (3), .inl (i), .inr (.inr (some 8)), .inr (.inl (yi_lor (yi_lshl (sl.getD (i + 1).toNat 0) 32) (yi_land (sl.getD (i + 2).toNat 0) (4294967295)))), .inr (.inr (some 10))], (I, L, R, Y), nc, ns) (fun _ => rfl) ?_
  refine yi_L_iadd rfl (i + 3) (yi_wn (by omega) (by omega)) ?_
  refine yi_L_ald rfl (by omega) (by omega) ?_
  refine yi_L_run 6 (225, [(4, .inl i), (3, .inr (.inr (some 109))), (2, .inr (.inr (some 82))), (1, .inr (.inr (some 10))), (0, .inr (.inr (some 8)))], [.inl (4), .inl (i), .inr (.inr (some 8)), .inr (.inl (yi_lshl (sl.getD (i + 3).toNat 0) 32)), .inr (.inl (yi_lor (yi_lshl (sl.getD (i + 1).toNat 0) 32) (yi_land (sl.getD (i + 2).toNat 0) (4294967295)))), .inr (.inr (some 10))], (I, L, R, Y), nc, ns) (fun _ => rfl) ?_
  refine yi_L_iadd rfl (i + 4) (yi_wn (by omega) (by omega)) ?_
  refine yi_L_ald rfl (by omega) (by omega) ?_
  refine yi_L_run 1 (228, [(4, .inl i), (3, .inr (.inr (some 109))), (2, .inr (.inr (some 82))), (1, .inr (.inr (some 10))), (0, .inr (.inr (some 8)))], [.inr (.inl (sl.getD (i + 4).toNat 0)), .inr (.inl (yi_lshl (sl.getD (i + 3).toNat 0) 32)), .inr (.inl (yi_lor (yi_lshl (sl.getD (i + 1).toNat 0) 32) (yi_land (sl.getD (i + 2).toNat 0) (4294967295)))), .inr (.inr (some 10))], (I, L, R, Y), nc, ns) (fun _ => rfl) ?_
  refine yi_L_ldc2 (4294967295) rfl (by decide +kernel) ?_
  refine yi_L_run 5 (237, [(4, .inl i), (3, .inr (.inr (some 109))), (2, .inr (.inr (some 82))), (1, .inr (.inr (some 10))), (0, .inr (.inr (some 8)))], [.inl (5), .inl (i), .inr (.inr (some 8)), .inr (.inl (yi_lor (yi_lshl (sl.getD (i + 3).toNat 0) 32) (yi_land (sl.getD (i + 4).toNat 0) (4294967295)))), .inr (.inl (yi_lor (yi_lshl (sl.getD (i + 1).toNat 0) 32) (yi_land (sl.getD (i + 2).toNat 0) (4294967295)))), .inr (.inr (some 10))], (I, L, R, Y), nc, ns) (fun _ => rfl) ?_
  refine yi_L_iadd rfl (i + 5) (yi_wn (by omega) (by omega)) ?_
  refine yi_L_ald rfl (by omega) (by omega) ?_
  refine yi_L_run 6 (248, [(4, .inl i), (3, .inr (.inr (some 109))), (2, .inr (.inr (some 82))), (1, .inr (.inr (some 10))), (0, .inr (.inr (some 8)))], [.inl (6), .inl (i), .inr (.inr (some 8)), .inr (.inl (yi_lshl (sl.getD (i + 5).toNat 0) 32)), .inr (.inl (yi_lor (yi_lshl (sl.getD (i + 3).toNat 0) 32) (yi_land (sl.getD (i + 4).toNat 0) (4294967295)))), .inr (.inl (yi_lor (yi_lshl (sl.getD (i + 1).toNat 0) 32) (yi_land (sl.getD (i + 2).toNat 0) (4294967295)))), .inr (.inr (some 10))], (I, L, R, Y), nc, ns) (fun _ => rfl) ?_
  refine yi_L_iadd rfl (i + 6) (yi_wn (by omega) (by omega)) ?_
  refine yi_L_ald rfl (by omega) (by omega) ?_
  refine yi_L_run 1 (251, [(4, .inl i), (3, .inr (.inr (some 109))), (2, .inr (.inr (some 82))), (1, .inr (.inr (some 10))), (0, .inr (.inr (some 8)))], [.inr (.inl (sl.getD (i + 6).toNat 0)), .inr (.inl (yi_lshl (sl.getD (i + 5).toNat 0) 32)), .inr (.inl (yi_lor (yi_lshl (sl.getD (i + 3).toNat 0) 32) (yi_land (sl.getD (i + 4).toNat 0) (4294967295)))), .inr (.inl (yi_lor (yi_lshl (sl.getD (i + 1).toNat 0) 32) (yi_land (sl.getD (i + 2).toNat 0) (4294967295)))), .inr (.inr (some 10))], (I, L, R, Y), nc, ns) (fun _ => rfl) ?_
  refine yi_L_ldc2 (4294967295) rfl (by decide +kernel) ?_
  refine yi_L_run 2 (256, [(4, .inl i), (3, .inr (.inr (some 109))), (2, .inr (.inr (some 82))), (1, .inr (.inr (some 10))), (0, .inr (.inr (some 8)))], [.inr (.inl (yi_lor (yi_lshl (sl.getD (i + 5).toNat 0) 32) (yi_land (sl.getD (i + 6).toNat 0) (4294967295)))), .inr (.inl (yi_lor (yi_lshl (sl.getD (i + 3).toNat 0) 32) (yi_land (sl.getD (i + 4).toNat 0) (4294967295)))), .inr (.inl (yi_lor (yi_lshl (sl.getD (i + 1).toNat 0) 32) (yi_land (sl.getD (i + 2).toNat 0) (4294967295)))), .inr (.inr (some 10))], (I, L, R, Y), nc, ns) (fun _ => rfl) ?_
  refine yi_L_callv rfl rfl (cl_rcv (cl_10 hJ.1.1) rfl) rfl (show yi_E zi_Ms 60 149 [.inr (.inr (some 10)), .inr (.inl (yi_lor (yi_lshl (sl.getD (i + 1).toNat 0) 32) (yi_land (sl.getD (i + 2).toNat 0) (4294967295)))), .inr (.inl (yi_lor (yi_lshl (sl.getD (i + 3).toNat 0) 32) (yi_land (sl.getD (i + 4).toNat 0) (4294967295)))), .inr (.inl (yi_lor (yi_lshl (sl.getD (i + 5).toNat 0) 32) (yi_land (sl.getD (i + 6).toNat 0) (4294967295))))] (I, L, R, Y) _ from yi_E_P (yi_E_P (k_feedA 60 (by omega) hJ.1.1) (p_feed ⟨hJ.2.2.2.1, trivial⟩ hJ.2.2.1.2 hJ.2.2.2.2.1.2.1)) (yi_P_a (cn_P hW.1.1 (by decide +kernel) (cn_vn (cn_vp (by omega) (by omega)) (cn_vn (cn_vl _) (cn_vn (cn_vl _) (cn_vn (cn_vl _) cn_v0))))) (mn_P hW.2.1 (by decide +kernel) (mn_vn (mn_vp (by omega) (by omega)) (mn_vn (mn_vl _) (mn_vn (mn_vl _) (mn_vn (mn_vl _) mn_v0))))))) ?_
  rintro _ ⟨⟨⟨I1, rfl, hP, hx⟩, ⟨I1b, eb, hf1, hf2, -, -⟩⟩, hcw, hcm⟩
  have eI : I1 = I1b := congrArg (fun r : yi_R => r.2.1.1) eb
  subst eI
  have hcw : cn_H R Y R Y := hcw
  have hcm : mn_H I I1 R Y := hcm
  have hS1 := lw_S hJ.1.2.1 hJ.1.1 hP
  have hI1 := lw_IV (lw_IV0 hJ.1.2.2.1) hP
  have e82 : I1 82 2 = I 82 2 := ((hP.2.2.1 82 2 (by omega) (by omega)).1).trans (yi_u_ne _ _ (by omega))
  have hN1 := hN
  show yi_L zi_Ms 60 sl zi_mlaw (259, [(4, .inl i), (3, .inr (.inr (some 109))), (2, .inr (.inr (some 82))), (1, .inr (.inr (some 10))), (0, .inr (.inr (some 8)))], [.inl (I1 12 5)], (I1, L, R, Y), nc + 0, ns + 0) _
  refine yi_L_run 5 (265, [(4, .inl i), (3, .inr (.inr (some 109))), (2, .inr (.inr (some 82))), (1, .inr (.inr (some 10))), (0, .inr (.inr (some 8)))], [.inl (1), .inl (i), .inr (.inr (some 8)), .inr (.inr (some 82))], (I1, L, R, Y), nc + 0, ns + 0) (fun _ => rfl) ?_
  refine yi_L_iadd rfl (i + 1) (yi_wn (by omega) (by omega)) ?_
  refine yi_L_ald rfl (by omega) (by omega) ?_
  refine yi_L_run 6 (275, [(4, .inl i), (3, .inr (.inr (some 109))), (2, .inr (.inr (some 82))), (1, .inr (.inr (some 10))), (0, .inr (.inr (some 8)))], [.inl (2), .inl (i), .inr (.inr (some 8)), .inr (.inl (yi_lshl (sl.getD (i + 1).toNat 0) 32)), .inr (.inr (some 82))], (I1, L, R, Y), nc + 0, ns + 0) (fun _ => rfl) ?_
  refine yi_L_iadd rfl (i + 2) (yi_wn (by omega) (by omega)) ?_
  refine yi_L_ald rfl (by omega) (by omega) ?_
  refine yi_L_run 1 (278, [(4, .inl i), (3, .inr (.inr (some 109))), (2, .inr (.inr (some 82))), (1, .inr (.inr (some 10))), (0, .inr (.inr (some 8)))], [.inr (.inl (sl.getD (i + 2).toNat 0)), .inr (.inl (yi_lshl (sl.getD (i + 1).toNat 0) 32)), .inr (.inr (some 82))], (I1, L, R, Y), nc + 0, ns + 0) (fun _ => rfl) ?_
  refine yi_L_ldc2 (4294967295) rfl (by decide +kernel) ?_
  refine yi_L_run 5 (287, [(4, .inl i), (3, .inr (.inr (some 109))), (2, .inr (.inr (some 82))), (1, .inr (.inr (some 10))), (0, .inr (.inr (some 8)))], [.inl (3), .inl (i), .inr (.inr (some 8)), .inr (.inl (yi_lor (yi_lshl (sl.getD (i + 1).toNat 0) 32) (yi_land (sl.getD (i + 2).toNat 0) (4294967295)))), .inr (.inr (some 82))], (I1, L, R, Y), nc + 0, ns + 0) (fun _ => rfl) ?_
  refine yi_L_iadd rfl (i + 3) (yi_wn (by omega) (by omega)) ?_
  refine yi_L_ald rfl (by omega) (by omega) ?_
  refine yi_L_run 6 (297, [(4, .inl i), (3, .inr (.inr (some 109))), (2, .inr (.inr (some 82))), (1, .inr (.inr (some 10))), (0, .inr (.inr (some 8)))], [.inl (4), .inl (i), .inr (.inr (some 8)), .inr (.inl (yi_lshl (sl.getD (i + 3).toNat 0) 32)), .inr (.inl (yi_lor (yi_lshl (sl.getD (i + 1).toNat 0) 32) (yi_land (sl.getD (i + 2).toNat 0) (4294967295)))), .inr (.inr (some 82))], (I1, L, R, Y), nc + 0, ns + 0) (fun _ => rfl) ?_
  refine yi_L_iadd rfl (i + 4) (yi_wn (by omega) (by omega)) ?_
  refine yi_L_ald rfl (by omega) (by omega) ?_
  refine yi_L_run 1 (300, [(4, .inl i), (3, .inr (.inr (some 109))), (2, .inr (.inr (some 82))), (1, .inr (.inr (some 10))), (0, .inr (.inr (some 8)))], [.inr (.inl (sl.getD (i + 4).toNat 0)), .inr (.inl (yi_lshl (sl.getD (i + 3).toNat 0) 32)), .inr (.inl (yi_lor (yi_lshl (sl.getD (i + 1).toNat 0) 32) (yi_land (sl.getD (i + 2).toNat 0) (4294967295)))), .inr (.inr (some 82))], (I1, L, R, Y), nc + 0, ns + 0) (fun _ => rfl) ?_
  refine yi_L_ldc2 (4294967295) rfl (by decide +kernel) ?_
  refine yi_L_run 5 (309, [(4, .inl i), (3, .inr (.inr (some 109))), (2, .inr (.inr (some 82))), (1, .inr (.inr (some 10))), (0, .inr (.inr (some 8)))], [.inl (5), .inl (i), .inr (.inr (some 8)), .inr (.inl (yi_lor (yi_lshl (sl.getD (i + 3).toNat 0) 32) (yi_land (sl.getD (i + 4).toNat 0) (4294967295)))), .inr (.inl (yi_lor (yi_lshl (sl.getD (i + 1).toNat 0) 32) (yi_land (sl.getD (i + 2).toNat 0) (4294967295)))), .inr (.inr (some 82))], (I1, L, R, Y), nc + 0, ns + 0) (fun _ => rfl) ?_
  refine yi_L_iadd rfl (i + 5) (yi_wn (by omega) (by omega)) ?_
  refine yi_L_ald rfl (by omega) (by omega) ?_
  refine yi_L_run 6 (320, [(4, .inl i), (3, .inr (.inr (some 109))), (2, .inr (.inr (some 82))), (1, .inr (.inr (some 10))), (0, .inr (.inr (some 8)))], [.inl (6), .inl (i), .inr (.inr (some 8)), .inr (.inl (yi_lshl (sl.getD (i + 5).toNat 0) 32)), .inr (.inl (yi_lor (yi_lshl (sl.getD (i + 3).toNat 0) 32) (yi_land (sl.getD (i + 4).toNat 0) (4294967295)))), .inr (.inl (yi_lor (yi_lshl (sl.getD (i + 1).toNat 0) 32) (yi_land (sl.getD (i + 2).toNat 0) (4294967295)))), .inr (.inr (some 82))], (I1, L, R, Y), nc + 0, ns + 0) (fun _ => rfl) ?_
  refine yi_L_iadd rfl (i + 6) (yi_wn (by omega) (by omega)) ?_
  refine yi_L_ald rfl (by omega) (by omega) ?_
  refine yi_L_run 1 (323, [(4, .inl i), (3, .inr (.inr (some 109))), (2, .inr (.inr (some 82))), (1, .inr (.inr (some 10))), (0, .inr (.inr (some 8)))], [.inr (.inl (sl.getD (i + 6).toNat 0)), .inr (.inl (yi_lshl (sl.getD (i + 5).toNat 0) 32)), .inr (.inl (yi_lor (yi_lshl (sl.getD (i + 3).toNat 0) 32) (yi_land (sl.getD (i + 4).toNat 0) (4294967295)))), .inr (.inl (yi_lor (yi_lshl (sl.getD (i + 1).toNat 0) 32) (yi_land (sl.getD (i + 2).toNat 0) (4294967295)))), .inr (.inr (some 82))], (I1, L, R, Y), nc + 0, ns + 0) (fun _ => rfl) ?_
  refine yi_L_ldc2 (4294967295) rfl (by decide +kernel) ?_
  refine yi_L_run 2 (328, [(4, .inl i), (3, .inr (.inr (some 109))), (2, .inr (.inr (some 82))), (1, .inr (.inr (some 10))), (0, .inr (.inr (some 8)))], [.inr (.inl (yi_lor (yi_lshl (sl.getD (i + 5).toNat 0) 32) (yi_land (sl.getD (i + 6).toNat 0) (4294967295)))), .inr (.inl (yi_lor (yi_lshl (sl.getD (i + 3).toNat 0) 32) (yi_land (sl.getD (i + 4).toNat 0) (4294967295)))), .inr (.inl (yi_lor (yi_lshl (sl.getD (i + 1).toNat 0) 32) (yi_land (sl.getD (i + 2).toNat 0) (4294967295)))), .inr (.inr (some 82))], (I1, L, R, Y), nc + 0, ns + 0) (fun _ => rfl) ?_
  refine yi_L_callv rfl rfl (ym_rcv hS1) rfl (show yi_E zi_Ms 60 25 [.inr (.inr (some 82)), .inr (.inl (yi_lor (yi_lshl (sl.getD (i + 1).toNat 0) 32) (yi_land (sl.getD (i + 2).toNat 0) (4294967295)))), .inr (.inl (yi_lor (yi_lshl (sl.getD (i + 3).toNat 0) 32) (yi_land (sl.getD (i + 4).toNat 0) (4294967295)))), .inr (.inl (yi_lor (yi_lshl (sl.getD (i + 5).toNat 0) 32) (yi_land (sl.getD (i + 6).toNat 0) (4294967295))))] (I1, L, R, Y) _ from yi_E_P (yi_E_P (m_feed _ _ _ hS1 hI1) (q_feed hS1 hI1.2.2.2.2.2.2.2.2.1)) (mn_P hcm.1 (by decide +kernel) (mn_vn (mn_vp (by omega) (by omega)) (mn_vn (mn_vl _) (mn_vn (mn_vl _) (mn_vn (mn_vl _) mn_v0)))))) ?_
  rintro _ ⟨⟨⟨I2, rfl, mf, iv, hm⟩, ⟨I2b, eb2, hg1, hg2, -, -⟩⟩, hcm2⟩
  have eI2 : I2 = I2b := congrArg (fun r : yi_R => r.2.1.1) eb2
  subst eI2
  have e2 := lw_fd hx hm e82 hJ.1.2.2.2.1
  show yi_L zi_Ms 60 sl zi_mlaw (331, [(4, .inl i), (3, .inr (.inr (some 109))), (2, .inr (.inr (some 82))), (1, .inr (.inr (some 10))), (0, .inr (.inr (some 8)))], [.inl (I2 82 2)], (I2, L, R, Y), nc + 0 + 0, ns + 0 + 0) _
  refine yi_L_run 2 (1398, [(4, .inl i), (3, .inr (.inr (some 109))), (2, .inr (.inr (some 82))), (1, .inr (.inr (some 10))), (0, .inr (.inr (some 8)))], [], (I2, L, R, Y), nc + 0 + 0, ns + 0 + 0) (fun _ => rfl) ?_
  exact yi_L_end ⟨_, _, _, _, _, _, rfl, ⟨lw_K_f hJ hP mf iv e2 ⟨hf1, hf2⟩ ⟨hg1, hg2⟩, lw_W_s hW hcw hcm hcm2⟩⟩
theorem lw_o1 {sl : List Int} {n : Nat} {i : Int} (hi : 0 ≤ i) (h7 : i + 7 ≤ sl.length) (hL : sl.length ≤ 3584) {I L : cl_I} {R : cl_Rr} {Y : cl_Y} {nc ns : Nat} (hM : lw_M n I L R Y nc ns) : yi_L zi_Ms 60 sl zi_mlaw (335, [(4, .inl i), (3, .inr (.inr (some 109))), (2, .inr (.inr (some 82))), (1, .inr (.inr (some 10))), (0, .inr (.inr (some 8)))], [], (I, L, R, Y), nc, ns) (lw_Q n i) := by
  obtain ⟨hJ, hW⟩ := hM
  have hN := hJ.1.1.2.2.1.1
  refine yi_L_run 1 (336, [(4, .inl i), (3, .inr (.inr (some 109))), (2, .inr (.inr (some 82))), (1, .inr (.inr (some 10))), (0, .inr (.inr (some 8)))], [.inr (.inr (some 10))], (I, L, R, Y), nc, ns) (fun _ => rfl) ?_
  refine yi_L_callv rfl rfl (cl_rcv (cl_10 hJ.1.1) rfl) rfl (show yi_E zi_Ms 60 162 [.inr (.inr (some 10))] (I, L, R, Y) _ from yi_E_P (yi_E_P (yi_E_P (x_land _ _ _ _ hJ.1.1) (cx_P hJ.2.1 rfl (cx_lc cx_v10 cx_l0))) (lw_pland hJ.1.1 hJ.2)) (yi_P_a (p_landM hW.1) (mn_P hW.2.1 (by decide +kernel) (mn_vn (mn_vp (by omega) (by omega)) mn_v0)))) ?_
  rintro _ ⟨⟨⟨⟨z1, I1, L1, R1, Y1, c1, s1, rfl, hP, hc, hs⟩, hcx⟩, ⟨f1, Hf, n1, m1, ef1, hsp1⟩⟩, ⟨zm, Im, Lm, Rm, Ym, nm1, mm1, em, hmC, hmk⟩, hcm⟩
  cases ef1
  cases em
  have hcm : mn_H I I1 R1 Y1 := hcm
  have hS1 := lw_S hJ.1.2.1 hJ.1.1 hP
  have hI1 := lw_IV (lw_IV0 hJ.1.2.2.1) hP
  have hN1 := hP.1.2.2.1.1
  show yi_L zi_Ms 60 sl zi_mlaw (339, [(4, .inl i), (3, .inr (.inr (some 109))), (2, .inr (.inr (some 82))), (1, .inr (.inr (some 10))), (0, .inr (.inr (some 8)))], [.inl (z1)], (I1, L1, R1, Y1), nc + c1, ns + s1) _
  refine yi_L_run 2 (341, [(4, .inl i), (3, .inr (.inr (some 109))), (2, .inr (.inr (some 82))), (1, .inr (.inr (some 10))), (0, .inr (.inr (some 8)))], [.inr (.inr (some 82))], (I1, L1, R1, Y1), nc + c1, ns + s1) (fun _ => rfl) ?_
  refine yi_L_callv rfl rfl (ym_rcv hS1) rfl (show yi_E zi_Ms 60 72 [.inr (.inr (some 82))] (I1, L1, R1, Y1) _ from yi_E_P (m_landM hS1 hI1) (lw_qland hS1 hJ.2 hP)) ?_
  rintro _ ⟨⟨z2, I2, L2, rfl, mf, iv, e2, hlg⟩, ⟨f2, Hg, n2, m2, ef2, hsp2⟩⟩
  cases ef2
  have hEq := sp_R_u hsp1 hsp2
  show yi_L zi_Ms 60 sl zi_mlaw (344, [(4, .inl i), (3, .inr (.inr (some 109))), (2, .inr (.inr (some 82))), (1, .inr (.inr (some 10))), (0, .inr (.inr (some 8)))], [.inl (z2)], (I2, L2, R1, Y1), nc + c1 + 0, ns + s1 + 0) _
  refine yi_L_run 2 (1398, [(4, .inl i), (3, .inr (.inr (some 109))), (2, .inr (.inr (some 82))), (1, .inr (.inr (some 10))), (0, .inr (.inr (some 8)))], [], (I2, L2, R1, Y1), nc + c1 + 0, ns + s1 + 0) (fun _ => rfl) ?_
  exact yi_L_end ⟨_, _, _, _, _, _, rfl, ⟨lw_K_0 hJ hP hc hs hcx mf iv e2, lw_W_l hW hmC hmk hcm (hEq ▸ hlg)⟩⟩
theorem lw_o2 {sl : List Int} {n : Nat} {i : Int} (hi : 0 ≤ i) (h7 : i + 7 ≤ sl.length) (hL : sl.length ≤ 3584) {I L : cl_I} {R : cl_Rr} {Y : cl_Y} {nc ns : Nat} (hM : lw_M n I L R Y nc ns) : yi_L zi_Ms 60 sl zi_mlaw (348, [(4, .inl i), (3, .inr (.inr (some 109))), (2, .inr (.inr (some 82))), (1, .inr (.inr (some 10))), (0, .inr (.inr (some 8)))], [], (I, L, R, Y), nc, ns) (lw_Q n i) := by
  obtain ⟨hJ, hW⟩ := hM
  have hN := hJ.1.1.2.2.1.1
  refine yi_L_run 1 (349, [(4, .inl i), (3, .inr (.inr (some 109))), (2, .inr (.inr (some 82))), (1, .inr (.inr (some 10))), (0, .inr (.inr (some 8)))], [.inr (.inr (some 10))], (I, L, R, Y), nc, ns) (fun _ => rfl) ?_
  refine yi_L_callv rfl rfl (cl_rcv (cl_10 hJ.1.1) rfl) rfl (show yi_E zi_Ms 60 180 [.inr (.inr (some 10))] (I, L, R, Y) _ from yi_E_P (yi_E_P (x_tell _ _ _ _ hJ.1.1) (cx_P hJ.2.1 rfl (cx_lc cx_v10 cx_l0))) (yi_P_a (cn_P hW.1.1 (by decide +kernel) (cn_vn (cn_vp (by omega) (by omega)) cn_v0)) (mn_P hW.2.1 (by decide +kernel) (mn_vn (mn_vp (by omega) (by omega)) mn_v0)))) ?_
  rintro _ ⟨⟨⟨z1, I1, L1, R1, Y1, c1, s1, rfl, hP, hc, hs⟩, hcx⟩, hcw, hcm⟩
  have hcw : cn_H R Y R1 Y1 := hcw
  have hcm : mn_H I I1 R1 Y1 := hcm
  have hS1 := lw_S hJ.1.2.1 hJ.1.1 hP
  have hI1 := lw_IV (lw_IV0 hJ.1.2.2.1) hP
  have hN1 := hP.1.2.2.1.1
  show yi_L zi_Ms 60 sl zi_mlaw (352, [(4, .inl i), (3, .inr (.inr (some 109))), (2, .inr (.inr (some 82))), (1, .inr (.inr (some 10))), (0, .inr (.inr (some 8)))], [.inl (z1)], (I1, L1, R1, Y1), nc + c1, ns + s1) _
  refine yi_L_run 2 (354, [(4, .inl i), (3, .inr (.inr (some 109))), (2, .inr (.inr (some 82))), (1, .inr (.inr (some 10))), (0, .inr (.inr (some 8)))], [.inr (.inr (some 82))], (I1, L1, R1, Y1), nc + c1, ns + s1) (fun _ => rfl) ?_
  refine yi_L_callv rfl rfl (ym_rcv hS1) rfl (show yi_E zi_Ms 60 122 [.inr (.inr (some 82))] (I1, L1, R1, Y1) _ from yi_E_P (m_tell _ _ _ hS1 hI1) (mn_P hcm.1 (by decide +kernel) (mn_vn (mn_vp (by omega) (by omega)) mn_v0))) ?_
  rintro _ ⟨⟨z2, I2, L2, rfl, mf, iv, e2⟩, hcm2⟩
  show yi_L zi_Ms 60 sl zi_mlaw (357, [(4, .inl i), (3, .inr (.inr (some 109))), (2, .inr (.inr (some 82))), (1, .inr (.inr (some 10))), (0, .inr (.inr (some 8)))], [.inl (z2)], (I2, L2, R1, Y1), nc + c1 + 0, ns + s1 + 0) _
  refine yi_L_run 2 (1398, [(4, .inl i), (3, .inr (.inr (some 109))), (2, .inr (.inr (some 82))), (1, .inr (.inr (some 10))), (0, .inr (.inr (some 8)))], [], (I2, L2, R1, Y1), nc + c1 + 0, ns + s1 + 0) (fun _ => rfl) ?_
  exact yi_L_end ⟨_, _, _, _, _, _, rfl, ⟨lw_K_0 hJ hP hc hs hcx mf iv e2, lw_W_s hW hcw hcm hcm2⟩⟩
theorem lw_o3 {sl : List Int} {n : Nat} {i : Int} (hi : 0 ≤ i) (h7 : i + 7 ≤ sl.length) (hL : sl.length ≤ 3584) {I L : cl_I} {R : cl_Rr} {Y : cl_Y} {nc ns : Nat} (hM : lw_M n I L R Y nc ns) : yi_L zi_Ms 60 sl zi_mlaw (361, [(4, .inl i), (3, .inr (.inr (some 109))), (2, .inr (.inr (some 82))), (1, .inr (.inr (some 10))), (0, .inr (.inr (some 8)))], [], (I, L, R, Y), nc, ns) (lw_Q n i) := by
  obtain ⟨hJ, hW⟩ := hM
  have hN := hJ.1.1.2.2.1.1
  refine yi_L_run 1 (362, [(4, .inl i), (3, .inr (.inr (some 109))), (2, .inr (.inr (some 82))), (1, .inr (.inr (some 10))), (0, .inr (.inr (some 8)))], [.inr (.inr (some 10))], (I, L, R, Y), nc, ns) (fun _ => rfl) ?_
  refine yi_L_callv rfl rfl (cl_rcv (cl_10 hJ.1.1) rfl) rfl (show yi_E zi_Ms 60 139 [.inr (.inr (some 10))] (I, L, R, Y) _ from yi_E_P (yi_E_P (x_ask _ _ _ _ hJ.1.1) (cx_P hJ.2.1 rfl (cx_lc cx_v10 cx_l0))) (yi_P_a (cn_P hW.1.1 (by decide +kernel) (cn_vn (cn_vp (by omega) (by omega)) cn_v0)) (mn_P hW.2.1 (by decide +kernel) (mn_vn (mn_vp (by omega) (by omega)) mn_v0)))) ?_
  rintro _ ⟨⟨⟨z1, I1, L1, R1, Y1, c1, s1, rfl, hP, hc, hs⟩, hcx⟩, hcw, hcm⟩
  have hcw : cn_H R Y R1 Y1 := hcw
  have hcm : mn_H I I1 R1 Y1 := hcm
  have hS1 := lw_S hJ.1.2.1 hJ.1.1 hP
  have hI1 := lw_IV (lw_IV0 hJ.1.2.2.1) hP
  have hN1 := hP.1.2.2.1.1
  show yi_L zi_Ms 60 sl zi_mlaw (365, [(4, .inl i), (3, .inr (.inr (some 109))), (2, .inr (.inr (some 82))), (1, .inr (.inr (some 10))), (0, .inr (.inr (some 8)))], [.inl (z1)], (I1, L1, R1, Y1), nc + c1, ns + s1) _
  refine yi_L_run 2 (367, [(4, .inl i), (3, .inr (.inr (some 109))), (2, .inr (.inr (some 82))), (1, .inr (.inr (some 10))), (0, .inr (.inr (some 8)))], [.inr (.inr (some 82))], (I1, L1, R1, Y1), nc + c1, ns + s1) (fun _ => rfl) ?_
  refine yi_L_callv rfl rfl (ym_rcv hS1) rfl (show yi_E zi_Ms 60 1 [.inr (.inr (some 82))] (I1, L1, R1, Y1) _ from yi_E_P (m_ask _ _ _ hS1 hI1) (mn_P hcm.1 (by decide +kernel) (mn_vn (mn_vp (by omega) (by omega)) mn_v0))) ?_
  rintro _ ⟨⟨z2, I2, L2, rfl, mf, iv, e2⟩, hcm2⟩
  show yi_L zi_Ms 60 sl zi_mlaw (370, [(4, .inl i), (3, .inr (.inr (some 109))), (2, .inr (.inr (some 82))), (1, .inr (.inr (some 10))), (0, .inr (.inr (some 8)))], [.inl (z2)], (I2, L2, R1, Y1), nc + c1 + 0, ns + s1 + 0) _
  refine yi_L_run 2 (1398, [(4, .inl i), (3, .inr (.inr (some 109))), (2, .inr (.inr (some 82))), (1, .inr (.inr (some 10))), (0, .inr (.inr (some 8)))], [], (I2, L2, R1, Y1), nc + c1 + 0, ns + s1 + 0) (fun _ => rfl) ?_
  exact yi_L_end ⟨_, _, _, _, _, _, rfl, ⟨lw_K_0 hJ hP hc hs hcx mf iv e2, lw_W_s hW hcw hcm hcm2⟩⟩
theorem lw_o4 {sl : List Int} {n : Nat} {i : Int} (hi : 0 ≤ i) (h7 : i + 7 ≤ sl.length) (hL : sl.length ≤ 3584) {I L : cl_I} {R : cl_Rr} {Y : cl_Y} {nc ns : Nat} (hM : lw_M n I L R Y nc ns) : yi_L zi_Ms 60 sl zi_mlaw (374, [(4, .inl i), (3, .inr (.inr (some 109))), (2, .inr (.inr (some 82))), (1, .inr (.inr (some 10))), (0, .inr (.inr (some 8)))], [], (I, L, R, Y), nc, ns) (lw_Q n i) := by
  obtain ⟨hJ, hW⟩ := hM
  have hN := hJ.1.1.2.2.1.1
  refine yi_L_run 4 (379, [(4, .inl i), (3, .inr (.inr (some 109))), (2, .inr (.inr (some 82))), (1, .inr (.inr (some 10))), (0, .inr (.inr (some 8)))], [.inl (1), .inl (i), .inr (.inr (some 8)), .inr (.inr (some 10))], (I, L, R, Y), nc, ns) (fun _ => rfl) ?_
  refine yi_L_iadd rfl (i + 1) (yi_wn (by omega) (by omega)) ?_
  refine yi_L_ald rfl (by omega) (by omega) ?_
  refine yi_L_callv rfl rfl (cl_rcv (cl_10 hJ.1.1) rfl) rfl (show yi_E zi_Ms 60 179 [.inr (.inr (some 10)), .inl (sl.getD (i + 1).toNat 0)] (I, L, R, Y) _ from yi_E_P (yi_E_P (x_tall _ _ _ _ hJ.1.1) (cx_P hJ.2.1 rfl (cx_lc cx_v10 (cx_lc (cx_v _) cx_l0)))) (yi_P_a (cn_P hW.1.1 (by decide +kernel) (cn_vn (cn_vp (by omega) (by omega)) (cn_vn (cn_vi _) cn_v0))) (mn_P hW.2.1 (by decide +kernel) (mn_vn (mn_vp (by omega) (by omega)) (mn_vn (mn_vi _) mn_v0))))) ?_
  rintro _ ⟨⟨⟨z1, I1, L1, R1, Y1, c1, s1, rfl, hP, hc, hs⟩, hcx⟩, hcw, hcm⟩
  have hcw : cn_H R Y R1 Y1 := hcw
  have hcm : mn_H I I1 R1 Y1 := hcm
  have hS1 := lw_S hJ.1.2.1 hJ.1.1 hP
  have hI1 := lw_IV hJ.1.2.2.1 hP
  have hN1 := hP.1.2.2.1.1
  show yi_L zi_Ms 60 sl zi_mlaw (384, [(4, .inl i), (3, .inr (.inr (some 109))), (2, .inr (.inr (some 82))), (1, .inr (.inr (some 10))), (0, .inr (.inr (some 8)))], [.inl (z1)], (I1, L1, R1, Y1), nc + c1, ns + s1) _
  refine yi_L_run 5 (390, [(4, .inl i), (3, .inr (.inr (some 109))), (2, .inr (.inr (some 82))), (1, .inr (.inr (some 10))), (0, .inr (.inr (some 8)))], [.inl (1), .inl (i), .inr (.inr (some 8)), .inr (.inr (some 82))], (I1, L1, R1, Y1), nc + c1, ns + s1) (fun _ => rfl) ?_
  refine yi_L_iadd rfl (i + 1) (yi_wn (by omega) (by omega)) ?_
  refine yi_L_ald rfl (by omega) (by omega) ?_
  refine yi_L_callv rfl rfl (ym_rcv hS1) rfl (show yi_E zi_Ms 60 121 [.inr (.inr (some 82)), .inl (sl.getD (i + 1).toNat 0)] (I1, L1, R1, Y1) _ from yi_E_P (m_tall _ _ _ hS1 hI1) (mn_P hcm.1 (by decide +kernel) (mn_vn (mn_vp (by omega) (by omega)) (mn_vn (mn_vi _) mn_v0)))) ?_
  rintro _ ⟨⟨z2, I2, L2, rfl, mf, iv, e2⟩, hcm2⟩
  show yi_L zi_Ms 60 sl zi_mlaw (395, [(4, .inl i), (3, .inr (.inr (some 109))), (2, .inr (.inr (some 82))), (1, .inr (.inr (some 10))), (0, .inr (.inr (some 8)))], [.inl (z2)], (I2, L2, R1, Y1), nc + c1 + 0, ns + s1 + 0) _
  refine yi_L_run 2 (1398, [(4, .inl i), (3, .inr (.inr (some 109))), (2, .inr (.inr (some 82))), (1, .inr (.inr (some 10))), (0, .inr (.inr (some 8)))], [], (I2, L2, R1, Y1), nc + c1 + 0, ns + s1 + 0) (fun _ => rfl) ?_
  exact yi_L_end ⟨_, _, _, _, _, _, rfl, ⟨lw_K_s hJ hP hc hs hcx mf iv e2, lw_W_s hW hcw hcm hcm2⟩⟩
theorem lw_o5 {sl : List Int} {n : Nat} {i : Int} (hi : 0 ≤ i) (h7 : i + 7 ≤ sl.length) (hL : sl.length ≤ 3584) {I L : cl_I} {R : cl_Rr} {Y : cl_Y} {nc ns : Nat} (hM : lw_M n I L R Y nc ns) : yi_L zi_Ms 60 sl zi_mlaw (399, [(4, .inl i), (3, .inr (.inr (some 109))), (2, .inr (.inr (some 82))), (1, .inr (.inr (some 10))), (0, .inr (.inr (some 8)))], [], (I, L, R, Y), nc, ns) (lw_Q n i) := by
  obtain ⟨hJ, hW⟩ := hM
  have hN := hJ.1.1.2.2.1.1
  refine yi_L_run 4 (404, [(4, .inl i), (3, .inr (.inr (some 109))), (2, .inr (.inr (some 82))), (1, .inr (.inr (some 10))), (0, .inr (.inr (some 8)))], [.inl (1), .inl (i), .inr (.inr (some 8)), .inr (.inr (some 10))], (I, L, R, Y), nc, ns) (fun _ => rfl) ?_
  refine yi_L_iadd rfl (i + 1) (yi_wn (by omega) (by omega)) ?_
  refine yi_L_ald rfl (by omega) (by omega) ?_
  refine yi_L_run 3 (410, [(4, .inl i), (3, .inr (.inr (some 109))), (2, .inr (.inr (some 82))), (1, .inr (.inr (some 10))), (0, .inr (.inr (some 8)))], [.inl (2), .inl (i), .inr (.inr (some 8)), .inl (sl.getD (i + 1).toNat 0), .inr (.inr (some 10))], (I, L, R, Y), nc, ns) (fun _ => rfl) ?_
  refine yi_L_iadd rfl (i + 2) (yi_wn (by omega) (by omega)) ?_
  refine yi_L_ald rfl (by omega) (by omega) ?_
  refine yi_L_callv rfl rfl (cl_rcv (cl_10 hJ.1.1) rfl) rfl (show yi_E zi_Ms 60 168 [.inr (.inr (some 10)), .inl (sl.getD (i + 1).toNat 0), .inl (sl.getD (i + 2).toNat 0)] (I, L, R, Y) _ from yi_E_P (yi_E_P (x_prophet _ _ _ _ hJ.1.1) (cx_P hJ.2.1 rfl (cx_lc cx_v10 (cx_lc (cx_v _) (cx_lc (cx_v _) cx_l0))))) (yi_P_a (cn_P hW.1.1 (by decide +kernel) (cn_vn (cn_vp (by omega) (by omega)) (cn_vn (cn_vi _) (cn_vn (cn_vi _) cn_v0)))) (mn_P hW.2.1 (by decide +kernel) (mn_vn (mn_vp (by omega) (by omega)) (mn_vn (mn_vi _) (mn_vn (mn_vi _) mn_v0)))))) ?_
  rintro _ ⟨⟨⟨z1, I1, L1, R1, Y1, c1, s1, rfl, hP, hc, hs⟩, hcx⟩, hcw, hcm⟩
  have hcw : cn_H R Y R1 Y1 := hcw
  have hcm : mn_H I I1 R1 Y1 := hcm
  have hS1 := lw_S hJ.1.2.1 hJ.1.1 hP
  have hI1 := lw_IV hJ.1.2.2.1 hP
  have hN1 := hP.1.2.2.1.1
  show yi_L zi_Ms 60 sl zi_mlaw (415, [(4, .inl i), (3, .inr (.inr (some 109))), (2, .inr (.inr (some 82))), (1, .inr (.inr (some 10))), (0, .inr (.inr (some 8)))], [.inl (z1)], (I1, L1, R1, Y1), nc + c1, ns + s1) _
  refine yi_L_run 5 (421, [(4, .inl i), (3, .inr (.inr (some 109))), (2, .inr (.inr (some 82))), (1, .inr (.inr (some 10))), (0, .inr (.inr (some 8)))], [.inl (1), .inl (i), .inr (.inr (some 8)), .inr (.inr (some 82))], (I1, L1, R1, Y1), nc + c1, ns + s1) (fun _ => rfl) ?_
  refine yi_L_iadd rfl (i + 1) (yi_wn (by omega) (by omega)) ?_
  refine yi_L_ald rfl (by omega) (by omega) ?_
  refine yi_L_run 3 (427, [(4, .inl i), (3, .inr (.inr (some 109))), (2, .inr (.inr (some 82))), (1, .inr (.inr (some 10))), (0, .inr (.inr (some 8)))], [.inl (2), .inl (i), .inr (.inr (some 8)), .inl (sl.getD (i + 1).toNat 0), .inr (.inr (some 82))], (I1, L1, R1, Y1), nc + c1, ns + s1) (fun _ => rfl) ?_
  refine yi_L_iadd rfl (i + 2) (yi_wn (by omega) (by omega)) ?_
  refine yi_L_ald rfl (by omega) (by omega) ?_
  refine yi_L_callv rfl rfl (ym_rcv hS1) rfl (show yi_E zi_Ms 60 91 [.inr (.inr (some 82)), .inl (sl.getD (i + 1).toNat 0), .inl (sl.getD (i + 2).toNat 0)] (I1, L1, R1, Y1) _ from yi_E_P (m_prophet _ _ _ hS1 hI1) (mn_P hcm.1 (by decide +kernel) (mn_vn (mn_vp (by omega) (by omega)) (mn_vn (mn_vi _) (mn_vn (mn_vi _) mn_v0))))) ?_
  rintro _ ⟨⟨z2, I2, L2, rfl, mf, iv, e2⟩, hcm2⟩
  show yi_L zi_Ms 60 sl zi_mlaw (432, [(4, .inl i), (3, .inr (.inr (some 109))), (2, .inr (.inr (some 82))), (1, .inr (.inr (some 10))), (0, .inr (.inr (some 8)))], [.inl (z2)], (I2, L2, R1, Y1), nc + c1 + 0, ns + s1 + 0) _
  refine yi_L_run 2 (1398, [(4, .inl i), (3, .inr (.inr (some 109))), (2, .inr (.inr (some 82))), (1, .inr (.inr (some 10))), (0, .inr (.inr (some 8)))], [], (I2, L2, R1, Y1), nc + c1 + 0, ns + s1 + 0) (fun _ => rfl) ?_
  exact yi_L_end ⟨_, _, _, _, _, _, rfl, ⟨lw_K_s hJ hP hc hs hcx mf iv e2, lw_W_s hW hcw hcm hcm2⟩⟩
theorem lw_o6 {sl : List Int} {n : Nat} {i : Int} (hi : 0 ≤ i) (h7 : i + 7 ≤ sl.length) (hL : sl.length ≤ 3584) {I L : cl_I} {R : cl_Rr} {Y : cl_Y} {nc ns : Nat} (hM : lw_M n I L R Y nc ns) : yi_L zi_Ms 60 sl zi_mlaw (436, [(4, .inl i), (3, .inr (.inr (some 109))), (2, .inr (.inr (some 82))), (1, .inr (.inr (some 10))), (0, .inr (.inr (some 8)))], [], (I, L, R, Y), nc, ns) (lw_Q n i) := by
  obtain ⟨hJ, hW⟩ := hM
  have hN := hJ.1.1.2.2.1.1
  refine yi_L_run 4 (441, [(4, .inl i), (3, .inr (.inr (some 109))), (2, .inr (.inr (some 82))), (1, .inr (.inr (some 10))), (0, .inr (.inr (some 8)))], [.inl (1), .inl (i), .inr (.inr (some 8)), .inr (.inr (some 10))], (I, L, R, Y), nc, ns) (fun _ => rfl) ?_
  refine yi_L_iadd rfl (i + 1) (yi_wn (by omega) (by omega)) ?_
  refine yi_L_ald rfl (by omega) (by omega) ?_
  refine yi_L_callv rfl rfl (cl_rcv (cl_10 hJ.1.1) rfl) rfl (show yi_E zi_Ms 60 153 [.inr (.inr (some 10)), .inl (sl.getD (i + 1).toNat 0)] (I, L, R, Y) _ from yi_E_P (yi_E_P (x_futures _ _ _ _ hJ.1.1) (cx_P hJ.2.1 rfl (cx_lc cx_v10 (cx_lc (cx_v _) cx_l0)))) (yi_P_a (cn_P hW.1.1 (by decide +kernel) (cn_vn (cn_vp (by omega) (by omega)) (cn_vn (cn_vi _) cn_v0))) (mn_P hW.2.1 (by decide +kernel) (mn_vn (mn_vp (by omega) (by omega)) (mn_vn (mn_vi _) mn_v0))))) ?_
  rintro _ ⟨⟨⟨z1, I1, L1, R1, Y1, c1, s1, rfl, hP, hc, hs⟩, hcx⟩, hcw, hcm⟩
  have hcw : cn_H R Y R1 Y1 := hcw
  have hcm : mn_H I I1 R1 Y1 := hcm
  have hS1 := lw_S hJ.1.2.1 hJ.1.1 hP
  have hI1 := lw_IV hJ.1.2.2.1 hP
  have hN1 := hP.1.2.2.1.1
  show yi_L zi_Ms 60 sl zi_mlaw (446, [(4, .inl i), (3, .inr (.inr (some 109))), (2, .inr (.inr (some 82))), (1, .inr (.inr (some 10))), (0, .inr (.inr (some 8)))], [.inl (z1)], (I1, L1, R1, Y1), nc + c1, ns + s1) _
  refine yi_L_run 5 (452, [(4, .inl i), (3, .inr (.inr (some 109))), (2, .inr (.inr (some 82))), (1, .inr (.inr (some 10))), (0, .inr (.inr (some 8)))], [.inl (1), .inl (i), .inr (.inr (some 8)), .inr (.inr (some 82))], (I1, L1, R1, Y1), nc + c1, ns + s1) (fun _ => rfl) ?_
  refine yi_L_iadd rfl (i + 1) (yi_wn (by omega) (by omega)) ?_
  refine yi_L_ald rfl (by omega) (by omega) ?_
  refine yi_L_callv rfl rfl (ym_rcv hS1) rfl (show yi_E zi_Ms 60 36 [.inr (.inr (some 82)), .inl (sl.getD (i + 1).toNat 0)] (I1, L1, R1, Y1) _ from yi_E_P (m_futures _ _ _ hS1 hI1) (mn_P hcm.1 (by decide +kernel) (mn_vn (mn_vp (by omega) (by omega)) (mn_vn (mn_vi _) mn_v0)))) ?_
  rintro _ ⟨⟨z2, I2, L2, rfl, mf, iv, e2⟩, hcm2⟩
  show yi_L zi_Ms 60 sl zi_mlaw (457, [(4, .inl i), (3, .inr (.inr (some 109))), (2, .inr (.inr (some 82))), (1, .inr (.inr (some 10))), (0, .inr (.inr (some 8)))], [.inl (z2)], (I2, L2, R1, Y1), nc + c1 + 0, ns + s1 + 0) _
  refine yi_L_run 2 (1398, [(4, .inl i), (3, .inr (.inr (some 109))), (2, .inr (.inr (some 82))), (1, .inr (.inr (some 10))), (0, .inr (.inr (some 8)))], [], (I2, L2, R1, Y1), nc + c1 + 0, ns + s1 + 0) (fun _ => rfl) ?_
  exact yi_L_end ⟨_, _, _, _, _, _, rfl, ⟨lw_K_s hJ hP hc hs hcx mf iv e2, lw_W_s hW hcw hcm hcm2⟩⟩
theorem lw_o7 {sl : List Int} {n : Nat} {i : Int} (hi : 0 ≤ i) (h7 : i + 7 ≤ sl.length) (hL : sl.length ≤ 3584) {I L : cl_I} {R : cl_Rr} {Y : cl_Y} {nc ns : Nat} (hM : lw_M n I L R Y nc ns) : yi_L zi_Ms 60 sl zi_mlaw (461, [(4, .inl i), (3, .inr (.inr (some 109))), (2, .inr (.inr (some 82))), (1, .inr (.inr (some 10))), (0, .inr (.inr (some 8)))], [], (I, L, R, Y), nc, ns) (lw_Q n i) := by
  obtain ⟨hJ, hW⟩ := hM
  have hN := hJ.1.1.2.2.1.1
  refine yi_L_run 4 (466, [(4, .inl i), (3, .inr (.inr (some 109))), (2, .inr (.inr (some 82))), (1, .inr (.inr (some 10))), (0, .inr (.inr (some 8)))], [.inl (1), .inl (i), .inr (.inr (some 8)), .inr (.inr (some 10))], (I, L, R, Y), nc, ns) (fun _ => rfl) ?_
  refine yi_L_iadd rfl (i + 1) (yi_wn (by omega) (by omega)) ?_
  refine yi_L_ald rfl (by omega) (by omega) ?_
  refine yi_L_run 3 (472, [(4, .inl i), (3, .inr (.inr (some 109))), (2, .inr (.inr (some 82))), (1, .inr (.inr (some 10))), (0, .inr (.inr (some 8)))], [.inl (2), .inl (i), .inr (.inr (some 8)), .inl (sl.getD (i + 1).toNat 0), .inr (.inr (some 10))], (I, L, R, Y), nc, ns) (fun _ => rfl) ?_
  refine yi_L_iadd rfl (i + 2) (yi_wn (by omega) (by omega)) ?_
  refine yi_L_ald rfl (by omega) (by omega) ?_
  refine yi_L_callv rfl rfl (cl_rcv (cl_10 hJ.1.1) rfl) rfl (show yi_E zi_Ms 60 172 [.inr (.inr (some 10)), .inl (sl.getD (i + 1).toNat 0), .inl (sl.getD (i + 2).toNat 0)] (I, L, R, Y) _ from yi_E_P (yi_E_P (x_saying _ _ _ _ hJ.1.1) (cx_P hJ.2.1 rfl (cx_lc cx_v10 (cx_lc (cx_v _) (cx_lc (cx_v _) cx_l0))))) (yi_P_a (cn_P hW.1.1 (by decide +kernel) (cn_vn (cn_vp (by omega) (by omega)) (cn_vn (cn_vi _) (cn_vn (cn_vi _) cn_v0)))) (mn_P hW.2.1 (by decide +kernel) (mn_vn (mn_vp (by omega) (by omega)) (mn_vn (mn_vi _) (mn_vn (mn_vi _) mn_v0)))))) ?_
  rintro _ ⟨⟨⟨z1, I1, L1, R1, Y1, c1, s1, rfl, hP, hc, hs⟩, hcx⟩, hcw, hcm⟩
  have hcw : cn_H R Y R1 Y1 := hcw
  have hcm : mn_H I I1 R1 Y1 := hcm
  have hS1 := lw_S hJ.1.2.1 hJ.1.1 hP
  have hI1 := lw_IV hJ.1.2.2.1 hP
  have hN1 := hP.1.2.2.1.1
  show yi_L zi_Ms 60 sl zi_mlaw (477, [(4, .inl i), (3, .inr (.inr (some 109))), (2, .inr (.inr (some 82))), (1, .inr (.inr (some 10))), (0, .inr (.inr (some 8)))], [.inl (z1)], (I1, L1, R1, Y1), nc + c1, ns + s1) _
  refine yi_L_run 5 (483, [(4, .inl i), (3, .inr (.inr (some 109))), (2, .inr (.inr (some 82))), (1, .inr (.inr (some 10))), (0, .inr (.inr (some 8)))], [.inl (1), .inl (i), .inr (.inr (some 8)), .inr (.inr (some 82))], (I1, L1, R1, Y1), nc + c1, ns + s1) (fun _ => rfl) ?_
  refine yi_L_iadd rfl (i + 1) (yi_wn (by omega) (by omega)) ?_
  refine yi_L_ald rfl (by omega) (by omega) ?_
  refine yi_L_run 3 (489, [(4, .inl i), (3, .inr (.inr (some 109))), (2, .inr (.inr (some 82))), (1, .inr (.inr (some 10))), (0, .inr (.inr (some 8)))], [.inl (2), .inl (i), .inr (.inr (some 8)), .inl (sl.getD (i + 1).toNat 0), .inr (.inr (some 82))], (I1, L1, R1, Y1), nc + c1, ns + s1) (fun _ => rfl) ?_
  refine yi_L_iadd rfl (i + 2) (yi_wn (by omega) (by omega)) ?_
  refine yi_L_ald rfl (by omega) (by omega) ?_
  refine yi_L_callv rfl rfl (ym_rcv hS1) rfl (show yi_E zi_Ms 60 107 [.inr (.inr (some 82)), .inl (sl.getD (i + 1).toNat 0), .inl (sl.getD (i + 2).toNat 0)] (I1, L1, R1, Y1) _ from yi_E_P (m_saying _ _ _ hS1 hI1) (mn_P hcm.1 (by decide +kernel) (mn_vn (mn_vp (by omega) (by omega)) (mn_vn (mn_vi _) (mn_vn (mn_vi _) mn_v0))))) ?_
  rintro _ ⟨⟨z2, I2, L2, rfl, mf, iv, e2⟩, hcm2⟩
  show yi_L zi_Ms 60 sl zi_mlaw (494, [(4, .inl i), (3, .inr (.inr (some 109))), (2, .inr (.inr (some 82))), (1, .inr (.inr (some 10))), (0, .inr (.inr (some 8)))], [.inl (z2)], (I2, L2, R1, Y1), nc + c1 + 0, ns + s1 + 0) _
  refine yi_L_run 2 (1398, [(4, .inl i), (3, .inr (.inr (some 109))), (2, .inr (.inr (some 82))), (1, .inr (.inr (some 10))), (0, .inr (.inr (some 8)))], [], (I2, L2, R1, Y1), nc + c1 + 0, ns + s1 + 0) (fun _ => rfl) ?_
  exact yi_L_end ⟨_, _, _, _, _, _, rfl, ⟨lw_K_s hJ hP hc hs hcx mf iv e2, lw_W_s hW hcw hcm hcm2⟩⟩
theorem lw_o8 {sl : List Int} {n : Nat} {i : Int} (hi : 0 ≤ i) (h7 : i + 7 ≤ sl.length) (hL : sl.length ≤ 3584) {I L : cl_I} {R : cl_Rr} {Y : cl_Y} {nc ns : Nat} (hM : lw_M n I L R Y nc ns) : yi_L zi_Ms 60 sl zi_mlaw (498, [(4, .inl i), (3, .inr (.inr (some 109))), (2, .inr (.inr (some 82))), (1, .inr (.inr (some 10))), (0, .inr (.inr (some 8)))], [], (I, L, R, Y), nc, ns) (lw_Q n i) := by
  obtain ⟨hJ, hW⟩ := hM
  have hN := hJ.1.1.2.2.1.1
  refine yi_L_run 4 (503, [(4, .inl i), (3, .inr (.inr (some 109))), (2, .inr (.inr (some 82))), (1, .inr (.inr (some 10))), (0, .inr (.inr (some 8)))], [.inl (1), .inl (i), .inr (.inr (some 8)), .inr (.inr (some 10))], (I, L, R, Y), nc, ns) (fun _ => rfl) ?_
  refine yi_L_iadd rfl (i + 1) (yi_wn (by omega) (by omega)) ?_
  refine yi_L_ald rfl (by omega) (by omega) ?_
  refine yi_L_callv rfl rfl (cl_rcv (cl_10 hJ.1.1) rfl) rfl (show yi_E zi_Ms 60 177 [.inr (.inr (some 10)), .inl (sl.getD (i + 1).toNat 0)] (I, L, R, Y) _ from yi_E_P (yi_E_P (x_strike _ _ _ _ hJ.1.1) (cx_P hJ.2.1 rfl (cx_lc cx_v10 (cx_lc (cx_v _) cx_l0)))) (yi_P_a (cn_P hW.1.1 (by decide +kernel) (cn_vn (cn_vp (by omega) (by omega)) (cn_vn (cn_vi _) cn_v0))) (mn_P hW.2.1 (by decide +kernel) (mn_vn (mn_vp (by omega) (by omega)) (mn_vn (mn_vi _) mn_v0))))) ?_
  rintro _ ⟨⟨⟨z1, I1, L1, R1, Y1, c1, s1, rfl, hP, hc, hs⟩, hcx⟩, hcw, hcm⟩
  have hcw : cn_H R Y R1 Y1 := hcw
  have hcm : mn_H I I1 R1 Y1 := hcm
  have hS1 := lw_S hJ.1.2.1 hJ.1.1 hP
  have hI1 := lw_IV hJ.1.2.2.1 hP
  have hN1 := hP.1.2.2.1.1
  show yi_L zi_Ms 60 sl zi_mlaw (508, [(4, .inl i), (3, .inr (.inr (some 109))), (2, .inr (.inr (some 82))), (1, .inr (.inr (some 10))), (0, .inr (.inr (some 8)))], [.inl (z1)], (I1, L1, R1, Y1), nc + c1, ns + s1) _
  refine yi_L_run 5 (514, [(4, .inl i), (3, .inr (.inr (some 109))), (2, .inr (.inr (some 82))), (1, .inr (.inr (some 10))), (0, .inr (.inr (some 8)))], [.inl (1), .inl (i), .inr (.inr (some 8)), .inr (.inr (some 82))], (I1, L1, R1, Y1), nc + c1, ns + s1) (fun _ => rfl) ?_
  refine yi_L_iadd rfl (i + 1) (yi_wn (by omega) (by omega)) ?_
  refine yi_L_ald rfl (by omega) (by omega) ?_
  refine yi_L_callv rfl rfl (ym_rcv hS1) rfl (show yi_E zi_Ms 60 112 [.inr (.inr (some 82)), .inl (sl.getD (i + 1).toNat 0)] (I1, L1, R1, Y1) _ from yi_E_P (m_strike _ _ _ hS1 hI1) (mn_P hcm.1 (by decide +kernel) (mn_vn (mn_vp (by omega) (by omega)) (mn_vn (mn_vi _) mn_v0)))) ?_
  rintro _ ⟨⟨z2, I2, L2, rfl, mf, iv, e2⟩, hcm2⟩
  show yi_L zi_Ms 60 sl zi_mlaw (519, [(4, .inl i), (3, .inr (.inr (some 109))), (2, .inr (.inr (some 82))), (1, .inr (.inr (some 10))), (0, .inr (.inr (some 8)))], [.inl (z2)], (I2, L2, R1, Y1), nc + c1 + 0, ns + s1 + 0) _
  refine yi_L_run 2 (1398, [(4, .inl i), (3, .inr (.inr (some 109))), (2, .inr (.inr (some 82))), (1, .inr (.inr (some 10))), (0, .inr (.inr (some 8)))], [], (I2, L2, R1, Y1), nc + c1 + 0, ns + s1 + 0) (fun _ => rfl) ?_
  exact yi_L_end ⟨_, _, _, _, _, _, rfl, ⟨lw_K_s hJ hP hc hs hcx mf iv e2, lw_W_s hW hcw hcm hcm2⟩⟩
theorem lw_o9 {sl : List Int} {n : Nat} {i : Int} (hi : 0 ≤ i) (h7 : i + 7 ≤ sl.length) (hL : sl.length ≤ 3584) {I L : cl_I} {R : cl_Rr} {Y : cl_Y} {nc ns : Nat} (hM : lw_M n I L R Y nc ns) : yi_L zi_Ms 60 sl zi_mlaw (523, [(4, .inl i), (3, .inr (.inr (some 109))), (2, .inr (.inr (some 82))), (1, .inr (.inr (some 10))), (0, .inr (.inr (some 8)))], [], (I, L, R, Y), nc, ns) (lw_Q n i) := by
  obtain ⟨hJ, hW⟩ := hM
  have hN := hJ.1.1.2.2.1.1
  refine yi_L_run 4 (528, [(4, .inl i), (3, .inr (.inr (some 109))), (2, .inr (.inr (some 82))), (1, .inr (.inr (some 10))), (0, .inr (.inr (some 8)))], [.inl (1), .inl (i), .inr (.inr (some 8)), .inr (.inr (some 10))], (I, L, R, Y), nc, ns) (fun _ => rfl) ?_
  refine yi_L_iadd rfl (i + 1) (yi_wn (by omega) (by omega)) ?_
  refine yi_L_ald rfl (by omega) (by omega) ?_
  refine yi_L_run 3 (534, [(4, .inl i), (3, .inr (.inr (some 109))), (2, .inr (.inr (some 82))), (1, .inr (.inr (some 10))), (0, .inr (.inr (some 8)))], [.inl (2), .inl (i), .inr (.inr (some 8)), .inl (sl.getD (i + 1).toNat 0), .inr (.inr (some 10))], (I, L, R, Y), nc, ns) (fun _ => rfl) ?_
  refine yi_L_iadd rfl (i + 2) (yi_wn (by omega) (by omega)) ?_
  refine yi_L_ald rfl (by omega) (by omega) ?_
  refine yi_L_callv rfl rfl (cl_rcv (cl_10 hJ.1.1) rfl) rfl (show yi_E zi_Ms 60 145 [.inr (.inr (some 10)), .inl (sl.getD (i + 1).toNat 0), .inl (sl.getD (i + 2).toNat 0)] (I, L, R, Y) _ from yi_E_P (yi_E_P (x_come _ _ _ _ hJ.1.1) (cx_P hJ.2.1 rfl (cx_lc cx_v10 (cx_lc (cx_v _) (cx_lc (cx_v _) cx_l0))))) (yi_P_a (cn_P hW.1.1 (by decide +kernel) (cn_vn (cn_vp (by omega) (by omega)) (cn_vn (cn_vi _) (cn_vn (cn_vi _) cn_v0)))) (mn_P hW.2.1 (by decide +kernel) (mn_vn (mn_vp (by omega) (by omega)) (mn_vn (mn_vi _) (mn_vn (mn_vi _) mn_v0)))))) ?_
  rintro _ ⟨⟨⟨z1, I1, L1, R1, Y1, c1, s1, rfl, hP, hc, hs⟩, hcx⟩, hcw, hcm⟩
  have hcw : cn_H R Y R1 Y1 := hcw
  have hcm : mn_H I I1 R1 Y1 := hcm
  have hS1 := lw_S hJ.1.2.1 hJ.1.1 hP
  have hI1 := lw_IV hJ.1.2.2.1 hP
  have hN1 := hP.1.2.2.1.1
  show yi_L zi_Ms 60 sl zi_mlaw (539, [(4, .inl i), (3, .inr (.inr (some 109))), (2, .inr (.inr (some 82))), (1, .inr (.inr (some 10))), (0, .inr (.inr (some 8)))], [.inl (z1)], (I1, L1, R1, Y1), nc + c1, ns + s1) _
  refine yi_L_run 5 (545, [(4, .inl i), (3, .inr (.inr (some 109))), (2, .inr (.inr (some 82))), (1, .inr (.inr (some 10))), (0, .inr (.inr (some 8)))], [.inl (1), .inl (i), .inr (.inr (some 8)), .inr (.inr (some 82))], (I1, L1, R1, Y1), nc + c1, ns + s1) (fun _ => rfl) ?_
  refine yi_L_iadd rfl (i + 1) (yi_wn (by omega) (by omega)) ?_
  refine yi_L_ald rfl (by omega) (by omega) ?_
  refine yi_L_run 3 (551, [(4, .inl i), (3, .inr (.inr (some 109))), (2, .inr (.inr (some 82))), (1, .inr (.inr (some 10))), (0, .inr (.inr (some 8)))], [.inl (2), .inl (i), .inr (.inr (some 8)), .inl (sl.getD (i + 1).toNat 0), .inr (.inr (some 82))], (I1, L1, R1, Y1), nc + c1, ns + s1) (fun _ => rfl) ?_
  refine yi_L_iadd rfl (i + 2) (yi_wn (by omega) (by omega)) ?_
  refine yi_L_ald rfl (by omega) (by omega) ?_
  refine yi_L_callv rfl rfl (ym_rcv hS1) rfl (show yi_E zi_Ms 60 12 [.inr (.inr (some 82)), .inl (sl.getD (i + 1).toNat 0), .inl (sl.getD (i + 2).toNat 0)] (I1, L1, R1, Y1) _ from yi_E_P (m_come _ _ _ hS1 hI1) (mn_P hcm.1 (by decide +kernel) (mn_vn (mn_vp (by omega) (by omega)) (mn_vn (mn_vi _) (mn_vn (mn_vi _) mn_v0))))) ?_
  rintro _ ⟨⟨z2, I2, L2, rfl, mf, iv, e2⟩, hcm2⟩
  show yi_L zi_Ms 60 sl zi_mlaw (556, [(4, .inl i), (3, .inr (.inr (some 109))), (2, .inr (.inr (some 82))), (1, .inr (.inr (some 10))), (0, .inr (.inr (some 8)))], [.inl (z2)], (I2, L2, R1, Y1), nc + c1 + 0, ns + s1 + 0) _
  refine yi_L_run 2 (1398, [(4, .inl i), (3, .inr (.inr (some 109))), (2, .inr (.inr (some 82))), (1, .inr (.inr (some 10))), (0, .inr (.inr (some 8)))], [], (I2, L2, R1, Y1), nc + c1 + 0, ns + s1 + 0) (fun _ => rfl) ?_
  exact yi_L_end ⟨_, _, _, _, _, _, rfl, ⟨lw_K_s hJ hP hc hs hcx mf iv e2, lw_W_s hW hcw hcm hcm2⟩⟩
theorem lw_o10 {sl : List Int} {n : Nat} {i : Int} (hi : 0 ≤ i) (h7 : i + 7 ≤ sl.length) (hL : sl.length ≤ 3584) {I L : cl_I} {R : cl_Rr} {Y : cl_Y} {nc ns : Nat} (hM : lw_M n I L R Y nc ns) : yi_L zi_Ms 60 sl zi_mlaw (560, [(4, .inl i), (3, .inr (.inr (some 109))), (2, .inr (.inr (some 82))), (1, .inr (.inr (some 10))), (0, .inr (.inr (some 8)))], [], (I, L, R, Y), nc, ns) (lw_Q n i) := by
  obtain ⟨hJ, hW⟩ := hM
  have hN := hJ.1.1.2.2.1.1
  refine yi_L_run 4 (565, [(4, .inl i), (3, .inr (.inr (some 109))), (2, .inr (.inr (some 82))), (1, .inr (.inr (some 10))), (0, .inr (.inr (some 8)))], [.inl (1), .inl (i), .inr (.inr (some 8)), .inr (.inr (some 10))], (I, L, R, Y), nc, ns) (fun _ => rfl) ?_
  refine yi_L_iadd rfl (i + 1) (yi_wn (by omega) (by omega)) ?_
  refine yi_L_ald rfl (by omega) (by omega) ?_
  refine yi_L_run 3 (571, [(4, .inl i), (3, .inr (.inr (some 109))), (2, .inr (.inr (some 82))), (1, .inr (.inr (some 10))), (0, .inr (.inr (some 8)))], [.inl (2), .inl (i), .inr (.inr (some 8)), .inl (sl.getD (i + 1).toNat 0), .inr (.inr (some 10))], (I, L, R, Y), nc, ns) (fun _ => rfl) ?_
  refine yi_L_iadd rfl (i + 2) (yi_wn (by omega) (by omega)) ?_
  refine yi_L_ald rfl (by omega) (by omega) ?_
  refine yi_L_callv rfl rfl (cl_rcv (cl_10 hJ.1.1) rfl) rfl (show yi_E zi_Ms 60 142 [.inr (.inr (some 10)), .inl (sl.getD (i + 1).toNat 0), .inl (sl.getD (i + 2).toNat 0)] (I, L, R, Y) _ from yi_E_P (yi_E_P (x_came _ _ _ _ hJ.1.1) (cx_P hJ.2.1 rfl (cx_lc cx_v10 (cx_lc (cx_v _) (cx_lc (cx_v _) cx_l0))))) (yi_P_a (cn_P hW.1.1 (by decide +kernel) (cn_vn (cn_vp (by omega) (by omega)) (cn_vn (cn_vi _) (cn_vn (cn_vi _) cn_v0)))) (mn_P hW.2.1 (by decide +kernel) (mn_vn (mn_vp (by omega) (by omega)) (mn_vn (mn_vi _) (mn_vn (mn_vi _) mn_v0)))))) ?_
  rintro _ ⟨⟨⟨z1, I1, L1, R1, Y1, c1, s1, rfl, hP, hc, hs⟩, hcx⟩, hcw, hcm⟩
  have hcw : cn_H R Y R1 Y1 := hcw
  have hcm : mn_H I I1 R1 Y1 := hcm
  have hS1 := lw_S hJ.1.2.1 hJ.1.1 hP
  have hI1 := lw_IV hJ.1.2.2.1 hP
  have hN1 := hP.1.2.2.1.1
  show yi_L zi_Ms 60 sl zi_mlaw (576, [(4, .inl i), (3, .inr (.inr (some 109))), (2, .inr (.inr (some 82))), (1, .inr (.inr (some 10))), (0, .inr (.inr (some 8)))], [.inl (z1)], (I1, L1, R1, Y1), nc + c1, ns + s1) _
  refine yi_L_run 5 (582, [(4, .inl i), (3, .inr (.inr (some 109))), (2, .inr (.inr (some 82))), (1, .inr (.inr (some 10))), (0, .inr (.inr (some 8)))], [.inl (1), .inl (i), .inr (.inr (some 8)), .inr (.inr (some 82))], (I1, L1, R1, Y1), nc + c1, ns + s1) (fun _ => rfl) ?_
  refine yi_L_iadd rfl (i + 1) (yi_wn (by omega) (by omega)) ?_
  refine yi_L_ald rfl (by omega) (by omega) ?_
  refine yi_L_run 3 (588, [(4, .inl i), (3, .inr (.inr (some 109))), (2, .inr (.inr (some 82))), (1, .inr (.inr (some 10))), (0, .inr (.inr (some 8)))], [.inl (2), .inl (i), .inr (.inr (some 8)), .inl (sl.getD (i + 1).toNat 0), .inr (.inr (some 82))], (I1, L1, R1, Y1), nc + c1, ns + s1) (fun _ => rfl) ?_
  refine yi_L_iadd rfl (i + 2) (yi_wn (by omega) (by omega)) ?_
  refine yi_L_ald rfl (by omega) (by omega) ?_
  refine yi_L_callv rfl rfl (ym_rcv hS1) rfl (show yi_E zi_Ms 60 7 [.inr (.inr (some 82)), .inl (sl.getD (i + 1).toNat 0), .inl (sl.getD (i + 2).toNat 0)] (I1, L1, R1, Y1) _ from yi_E_P (m_came _ _ _ hS1 hI1) (mn_P hcm.1 (by decide +kernel) (mn_vn (mn_vp (by omega) (by omega)) (mn_vn (mn_vi _) (mn_vn (mn_vi _) mn_v0))))) ?_
  rintro _ ⟨⟨z2, I2, L2, rfl, mf, iv, e2⟩, hcm2⟩
  show yi_L zi_Ms 60 sl zi_mlaw (593, [(4, .inl i), (3, .inr (.inr (some 109))), (2, .inr (.inr (some 82))), (1, .inr (.inr (some 10))), (0, .inr (.inr (some 8)))], [.inl (z2)], (I2, L2, R1, Y1), nc + c1 + 0, ns + s1 + 0) _
  refine yi_L_run 2 (1398, [(4, .inl i), (3, .inr (.inr (some 109))), (2, .inr (.inr (some 82))), (1, .inr (.inr (some 10))), (0, .inr (.inr (some 8)))], [], (I2, L2, R1, Y1), nc + c1 + 0, ns + s1 + 0) (fun _ => rfl) ?_
  exact yi_L_end ⟨_, _, _, _, _, _, rfl, ⟨lw_K_s hJ hP hc hs hcx mf iv e2, lw_W_s hW hcw hcm hcm2⟩⟩
theorem lw_o11 {sl : List Int} {n : Nat} {i : Int} (hi : 0 ≤ i) (h7 : i + 7 ≤ sl.length) (hL : sl.length ≤ 3584) {I L : cl_I} {R : cl_Rr} {Y : cl_Y} {nc ns : Nat} (hM : lw_M n I L R Y nc ns) : yi_L zi_Ms 60 sl zi_mlaw (597, [(4, .inl i), (3, .inr (.inr (some 109))), (2, .inr (.inr (some 82))), (1, .inr (.inr (some 10))), (0, .inr (.inr (some 8)))], [], (I, L, R, Y), nc, ns) (lw_Q n i) := by
  obtain ⟨hJ, hW⟩ := hM
  have hN := hJ.1.1.2.2.1.1
  refine yi_L_run 4 (602, [(4, .inl i), (3, .inr (.inr (some 109))), (2, .inr (.inr (some 82))), (1, .inr (.inr (some 10))), (0, .inr (.inr (some 8)))], [.inl (1), .inl (i), .inr (.inr (some 8)), .inr (.inr (some 10))], (I, L, R, Y), nc, ns) (fun _ => rfl) ?_
  refine yi_L_iadd rfl (i + 1) (yi_wn (by omega) (by omega)) ?_
  refine yi_L_ald rfl (by omega) (by omega) ?_
  refine yi_L_run 3 (608, [(4, .inl i), (3, .inr (.inr (some 109))), (2, .inr (.inr (some 82))), (1, .inr (.inr (some 10))), (0, .inr (.inr (some 8)))], [.inl (2), .inl (i), .inr (.inr (some 8)), .inl (sl.getD (i + 1).toNat 0), .inr (.inr (some 10))], (I, L, R, Y), nc, ns) (fun _ => rfl) ?_
  refine yi_L_iadd rfl (i + 2) (yi_wn (by omega) (by omega)) ?_
  refine yi_L_ald rfl (by omega) (by omega) ?_
  refine yi_L_callv rfl rfl (cl_rcv (cl_10 hJ.1.1) rfl) rfl (show yi_E zi_Ms 60 166 [.inr (.inr (some 10)), .inl (sl.getD (i + 1).toNat 0), .inl (sl.getD (i + 2).toNat 0)] (I, L, R, Y) _ from yi_E_P (yi_E_P (x_promise _ _ _ _ hJ.1.1) (cx_P hJ.2.1 rfl (cx_lc cx_v10 (cx_lc (cx_v _) (cx_lc (cx_v _) cx_l0))))) (yi_P_a (cn_P hW.1.1 (by decide +kernel) (cn_vn (cn_vp (by omega) (by omega)) (cn_vn (cn_vi _) (cn_vn (cn_vi _) cn_v0)))) (mn_P hW.2.1 (by decide +kernel) (mn_vn (mn_vp (by omega) (by omega)) (mn_vn (mn_vi _) (mn_vn (mn_vi _) mn_v0)))))) ?_
  rintro _ ⟨⟨⟨z1, I1, L1, R1, Y1, c1, s1, rfl, hP, hc, hs⟩, hcx⟩, hcw, hcm⟩
  have hcw : cn_H R Y R1 Y1 := hcw
  have hcm : mn_H I I1 R1 Y1 := hcm
  have hS1 := lw_S hJ.1.2.1 hJ.1.1 hP
  have hI1 := lw_IV hJ.1.2.2.1 hP
  have hN1 := hP.1.2.2.1.1
  show yi_L zi_Ms 60 sl zi_mlaw (613, [(4, .inl i), (3, .inr (.inr (some 109))), (2, .inr (.inr (some 82))), (1, .inr (.inr (some 10))), (0, .inr (.inr (some 8)))], [.inl (z1)], (I1, L1, R1, Y1), nc + c1, ns + s1) _
  refine yi_L_run 5 (619, [(4, .inl i), (3, .inr (.inr (some 109))), (2, .inr (.inr (some 82))), (1, .inr (.inr (some 10))), (0, .inr (.inr (some 8)))], [.inl (1), .inl (i), .inr (.inr (some 8)), .inr (.inr (some 82))], (I1, L1, R1, Y1), nc + c1, ns + s1) (fun _ => rfl) ?_
  refine yi_L_iadd rfl (i + 1) (yi_wn (by omega) (by omega)) ?_
  refine yi_L_ald rfl (by omega) (by omega) ?_
  refine yi_L_run 3 (625, [(4, .inl i), (3, .inr (.inr (some 109))), (2, .inr (.inr (some 82))), (1, .inr (.inr (some 10))), (0, .inr (.inr (some 8)))], [.inl (2), .inl (i), .inr (.inr (some 8)), .inl (sl.getD (i + 1).toNat 0), .inr (.inr (some 82))], (I1, L1, R1, Y1), nc + c1, ns + s1) (fun _ => rfl) ?_
  refine yi_L_iadd rfl (i + 2) (yi_wn (by omega) (by omega)) ?_
  refine yi_L_ald rfl (by omega) (by omega) ?_
  refine yi_L_callv rfl rfl (ym_rcv hS1) rfl (show yi_E zi_Ms 60 90 [.inr (.inr (some 82)), .inl (sl.getD (i + 1).toNat 0), .inl (sl.getD (i + 2).toNat 0)] (I1, L1, R1, Y1) _ from yi_E_P (m_promise _ _ _ hS1 hI1) (mn_P hcm.1 (by decide +kernel) (mn_vn (mn_vp (by omega) (by omega)) (mn_vn (mn_vi _) (mn_vn (mn_vi _) mn_v0))))) ?_
  rintro _ ⟨⟨z2, I2, L2, rfl, mf, iv, e2⟩, hcm2⟩
  show yi_L zi_Ms 60 sl zi_mlaw (630, [(4, .inl i), (3, .inr (.inr (some 109))), (2, .inr (.inr (some 82))), (1, .inr (.inr (some 10))), (0, .inr (.inr (some 8)))], [.inl (z2)], (I2, L2, R1, Y1), nc + c1 + 0, ns + s1 + 0) _
  refine yi_L_run 2 (1398, [(4, .inl i), (3, .inr (.inr (some 109))), (2, .inr (.inr (some 82))), (1, .inr (.inr (some 10))), (0, .inr (.inr (some 8)))], [], (I2, L2, R1, Y1), nc + c1 + 0, ns + s1 + 0) (fun _ => rfl) ?_
  exact yi_L_end ⟨_, _, _, _, _, _, rfl, ⟨lw_K_s hJ hP hc hs hcx mf iv e2, lw_W_s hW hcw hcm hcm2⟩⟩
theorem lw_o12 {sl : List Int} {n : Nat} {i : Int} (hi : 0 ≤ i) (h7 : i + 7 ≤ sl.length) (hL : sl.length ≤ 3584) {I L : cl_I} {R : cl_Rr} {Y : cl_Y} {nc ns : Nat} (hM : lw_M n I L R Y nc ns) : yi_L zi_Ms 60 sl zi_mlaw (634, [(4, .inl i), (3, .inr (.inr (some 109))), (2, .inr (.inr (some 82))), (1, .inr (.inr (some 10))), (0, .inr (.inr (some 8)))], [], (I, L, R, Y), nc, ns) (lw_Q n i) := by
  obtain ⟨hJ, hW⟩ := hM
  have hN := hJ.1.1.2.2.1.1
  refine yi_L_run 1 (635, [(4, .inl i), (3, .inr (.inr (some 109))), (2, .inr (.inr (some 82))), (1, .inr (.inr (some 10))), (0, .inr (.inr (some 8)))], [.inr (.inr (some 10))], (I, L, R, Y), nc, ns) (fun _ => rfl) ?_
  refine yi_L_callv rfl rfl (cl_rcv (cl_10 hJ.1.1) rfl) rfl (show yi_E zi_Ms 60 181 [.inr (.inr (some 10))] (I, L, R, Y) _ from yi_E_P (yi_E_P (x_undo _ _ _ _ hJ.1.1) (cx_P hJ.2.1 rfl (cx_lc cx_v10 cx_l0))) (yi_P_a (cn_P hW.1.1 (by decide +kernel) (cn_vn (cn_vp (by omega) (by omega)) cn_v0)) (mn_P hW.2.1 (by decide +kernel) (mn_vn (mn_vp (by omega) (by omega)) mn_v0)))) ?_
  rintro _ ⟨⟨⟨z1, I1, L1, R1, Y1, c1, s1, rfl, hP, hc, hs⟩, hcx⟩, hcw, hcm⟩
  have hcw : cn_H R Y R1 Y1 := hcw
  have hcm : mn_H I I1 R1 Y1 := hcm
  have hS1 := lw_S hJ.1.2.1 hJ.1.1 hP
  have hI1 := lw_IV hJ.1.2.2.1 hP
  have hN1 := hP.1.2.2.1.1
  show yi_L zi_Ms 60 sl zi_mlaw (638, [(4, .inl i), (3, .inr (.inr (some 109))), (2, .inr (.inr (some 82))), (1, .inr (.inr (some 10))), (0, .inr (.inr (some 8)))], [.inl (z1)], (I1, L1, R1, Y1), nc + c1, ns + s1) _
  refine yi_L_run 2 (640, [(4, .inl i), (3, .inr (.inr (some 109))), (2, .inr (.inr (some 82))), (1, .inr (.inr (some 10))), (0, .inr (.inr (some 8)))], [.inr (.inr (some 82))], (I1, L1, R1, Y1), nc + c1, ns + s1) (fun _ => rfl) ?_
  refine yi_L_callv rfl rfl (ym_rcv hS1) rfl (show yi_E zi_Ms 60 124 [.inr (.inr (some 82))] (I1, L1, R1, Y1) _ from yi_E_P (m_undo _ _ _ hS1 hI1) (mn_P hcm.1 (by decide +kernel) (mn_vn (mn_vp (by omega) (by omega)) mn_v0))) ?_
  rintro _ ⟨⟨z2, I2, L2, rfl, mf, iv, e2⟩, hcm2⟩
  show yi_L zi_Ms 60 sl zi_mlaw (643, [(4, .inl i), (3, .inr (.inr (some 109))), (2, .inr (.inr (some 82))), (1, .inr (.inr (some 10))), (0, .inr (.inr (some 8)))], [.inl (z2)], (I2, L2, R1, Y1), nc + c1 + 0, ns + s1 + 0) _
  refine yi_L_run 2 (1398, [(4, .inl i), (3, .inr (.inr (some 109))), (2, .inr (.inr (some 82))), (1, .inr (.inr (some 10))), (0, .inr (.inr (some 8)))], [], (I2, L2, R1, Y1), nc + c1 + 0, ns + s1 + 0) (fun _ => rfl) ?_
  exact yi_L_end ⟨_, _, _, _, _, _, rfl, ⟨lw_K_s hJ hP hc hs hcx mf iv e2, lw_W_s hW hcw hcm hcm2⟩⟩
theorem lw_o13 {sl : List Int} {n : Nat} {i : Int} (hi : 0 ≤ i) (h7 : i + 7 ≤ sl.length) (hL : sl.length ≤ 3584) {I L : cl_I} {R : cl_Rr} {Y : cl_Y} {nc ns : Nat} (hM : lw_M n I L R Y nc ns) : yi_L zi_Ms 60 sl zi_mlaw (647, [(4, .inl i), (3, .inr (.inr (some 109))), (2, .inr (.inr (some 82))), (1, .inr (.inr (some 10))), (0, .inr (.inr (some 8)))], [], (I, L, R, Y), nc, ns) (lw_Q n i) := by
  obtain ⟨hJ, hW⟩ := hM
  have hN := hJ.1.1.2.2.1.1
  refine yi_L_run 4 (652, [(4, .inl i), (3, .inr (.inr (some 109))), (2, .inr (.inr (some 82))), (1, .inr (.inr (some 10))), (0, .inr (.inr (some 8)))], [.inl (1), .inl (i), .inr (.inr (some 8)), .inr (.inr (some 10))], (I, L, R, Y), nc, ns) (fun _ => rfl) ?_
  refine yi_L_iadd rfl (i + 1) (yi_wn (by omega) (by omega)) ?_
  refine yi_L_ald rfl (by omega) (by omega) ?_
  refine yi_L_run 3 (658, [(4, .inl i), (3, .inr (.inr (some 109))), (2, .inr (.inr (some 82))), (1, .inr (.inr (some 10))), (0, .inr (.inr (some 8)))], [.inl (2), .inl (i), .inr (.inr (some 8)), .inl (sl.getD (i + 1).toNat 0), .inr (.inr (some 10))], (I, L, R, Y), nc, ns) (fun _ => rfl) ?_
  refine yi_L_iadd rfl (i + 2) (yi_wn (by omega) (by omega)) ?_
  refine yi_L_ald rfl (by omega) (by omega) ?_
  refine yi_L_run 3 (664, [(4, .inl i), (3, .inr (.inr (some 109))), (2, .inr (.inr (some 82))), (1, .inr (.inr (some 10))), (0, .inr (.inr (some 8)))], [.inl (3), .inl (i), .inr (.inr (some 8)), .inl (sl.getD (i + 2).toNat 0), .inl (sl.getD (i + 1).toNat 0), .inr (.inr (some 10))], (I, L, R, Y), nc, ns) (fun _ => rfl) ?_
  refine yi_L_iadd rfl (i + 3) (yi_wn (by omega) (by omega)) ?_
  refine yi_L_ald rfl (by omega) (by omega) ?_
  refine yi_L_callv rfl rfl (cl_rcv (cl_10 hJ.1.1) rfl) rfl (show yi_E zi_Ms 60 188 [.inr (.inr (some 10)), .inl (sl.getD (i + 1).toNat 0), .inl (sl.getD (i + 2).toNat 0), .inl (sl.getD (i + 3).toNat 0)] (I, L, R, Y) _ from yi_E_P (yi_E_P (x_word _ _ _ _ hJ.1.1) (cx_P hJ.2.1 rfl (cx_lc cx_v10 (cx_lc (cx_v _) (cx_lc (cx_v _) (cx_lc (cx_v _) cx_l0)))))) (yi_P_a (cn_P hW.1.1 (by decide +kernel) (cn_vn (cn_vp (by omega) (by omega)) (cn_vn (cn_vi _) (cn_vn (cn_vi _) (cn_vn (cn_vi _) cn_v0))))) (mn_P hW.2.1 (by decide +kernel) (mn_vn (mn_vp (by omega) (by omega)) (mn_vn (mn_vi _) (mn_vn (mn_vi _) (mn_vn (mn_vi _) mn_v0))))))) ?_
  rintro _ ⟨⟨⟨z1, I1, L1, R1, Y1, c1, s1, rfl, hP, hc, hs⟩, hcx⟩, hcw, hcm⟩
  have hcw : cn_H R Y R1 Y1 := hcw
  have hcm : mn_H I I1 R1 Y1 := hcm
  have hS1 := lw_S hJ.1.2.1 hJ.1.1 hP
  have hI1 := lw_IV hJ.1.2.2.1 hP
  have hN1 := hP.1.2.2.1.1
  show yi_L zi_Ms 60 sl zi_mlaw (669, [(4, .inl i), (3, .inr (.inr (some 109))), (2, .inr (.inr (some 82))), (1, .inr (.inr (some 10))), (0, .inr (.inr (some 8)))], [.inl (z1)], (I1, L1, R1, Y1), nc + c1, ns + s1) _
  refine yi_L_run 5 (675, [(4, .inl i), (3, .inr (.inr (some 109))), (2, .inr (.inr (some 82))), (1, .inr (.inr (some 10))), (0, .inr (.inr (some 8)))], [.inl (1), .inl (i), .inr (.inr (some 8)), .inr (.inr (some 82))], (I1, L1, R1, Y1), nc + c1, ns + s1) (fun _ => rfl) ?_
  refine yi_L_iadd rfl (i + 1) (yi_wn (by omega) (by omega)) ?_
  refine yi_L_ald rfl (by omega) (by omega) ?_
  refine yi_L_run 3 (681, [(4, .inl i), (3, .inr (.inr (some 109))), (2, .inr (.inr (some 82))), (1, .inr (.inr (some 10))), (0, .inr (.inr (some 8)))], [.inl (2), .inl (i), .inr (.inr (some 8)), .inl (sl.getD (i + 1).toNat 0), .inr (.inr (some 82))], (I1, L1, R1, Y1), nc + c1, ns + s1) (fun _ => rfl) ?_
  refine yi_L_iadd rfl (i + 2) (yi_wn (by omega) (by omega)) ?_
  refine yi_L_ald rfl (by omega) (by omega) ?_
  refine yi_L_run 3 (687, [(4, .inl i), (3, .inr (.inr (some 109))), (2, .inr (.inr (some 82))), (1, .inr (.inr (some 10))), (0, .inr (.inr (some 8)))], [.inl (3), .inl (i), .inr (.inr (some 8)), .inl (sl.getD (i + 2).toNat 0), .inl (sl.getD (i + 1).toNat 0), .inr (.inr (some 82))], (I1, L1, R1, Y1), nc + c1, ns + s1) (fun _ => rfl) ?_
  refine yi_L_iadd rfl (i + 3) (yi_wn (by omega) (by omega)) ?_
  refine yi_L_ald rfl (by omega) (by omega) ?_
  refine yi_L_callv rfl rfl (ym_rcv hS1) rfl (show yi_E zi_Ms 60 132 [.inr (.inr (some 82)), .inl (sl.getD (i + 1).toNat 0), .inl (sl.getD (i + 2).toNat 0), .inl (sl.getD (i + 3).toNat 0)] (I1, L1, R1, Y1) _ from yi_E_P (m_word _ _ _ hS1 hI1) (mn_P hcm.1 (by decide +kernel) (mn_vn (mn_vp (by omega) (by omega)) (mn_vn (mn_vi _) (mn_vn (mn_vi _) (mn_vn (mn_vi _) mn_v0)))))) ?_
  rintro _ ⟨⟨z2, I2, L2, rfl, mf, iv, e2⟩, hcm2⟩
  show yi_L zi_Ms 60 sl zi_mlaw (692, [(4, .inl i), (3, .inr (.inr (some 109))), (2, .inr (.inr (some 82))), (1, .inr (.inr (some 10))), (0, .inr (.inr (some 8)))], [.inl (z2)], (I2, L2, R1, Y1), nc + c1 + 0, ns + s1 + 0) _
  refine yi_L_run 2 (1398, [(4, .inl i), (3, .inr (.inr (some 109))), (2, .inr (.inr (some 82))), (1, .inr (.inr (some 10))), (0, .inr (.inr (some 8)))], [], (I2, L2, R1, Y1), nc + c1 + 0, ns + s1 + 0) (fun _ => rfl) ?_
  exact yi_L_end ⟨_, _, _, _, _, _, rfl, ⟨lw_K_s hJ hP hc hs hcx mf iv e2, lw_W_s hW hcw hcm hcm2⟩⟩
theorem lw_o14 {sl : List Int} {n : Nat} {i : Int} (hi : 0 ≤ i) (h7 : i + 7 ≤ sl.length) (hL : sl.length ≤ 3584) {I L : cl_I} {R : cl_Rr} {Y : cl_Y} {nc ns : Nat} (hM : lw_M n I L R Y nc ns) : yi_L zi_Ms 60 sl zi_mlaw (696, [(4, .inl i), (3, .inr (.inr (some 109))), (2, .inr (.inr (some 82))), (1, .inr (.inr (some 10))), (0, .inr (.inr (some 8)))], [], (I, L, R, Y), nc, ns) (lw_Q n i) := by
  obtain ⟨hJ, hW⟩ := hM
  have hN := hJ.1.1.2.2.1.1
  refine yi_L_run 4 (701, [(4, .inl i), (3, .inr (.inr (some 109))), (2, .inr (.inr (some 82))), (1, .inr (.inr (some 10))), (0, .inr (.inr (some 8)))], [.inl (1), .inl (i), .inr (.inr (some 8)), .inr (.inr (some 10))], (I, L, R, Y), nc, ns) (fun _ => rfl) ?_
  refine yi_L_iadd rfl (i + 1) (yi_wn (by omega) (by omega)) ?_
  refine yi_L_ald rfl (by omega) (by omega) ?_
  refine yi_L_run 3 (707, [(4, .inl i), (3, .inr (.inr (some 109))), (2, .inr (.inr (some 82))), (1, .inr (.inr (some 10))), (0, .inr (.inr (some 8)))], [.inl (2), .inl (i), .inr (.inr (some 8)), .inl (sl.getD (i + 1).toNat 0), .inr (.inr (some 10))], (I, L, R, Y), nc, ns) (fun _ => rfl) ?_
  refine yi_L_iadd rfl (i + 2) (yi_wn (by omega) (by omega)) ?_
  refine yi_L_ald rfl (by omega) (by omega) ?_
  refine yi_L_run 3 (713, [(4, .inl i), (3, .inr (.inr (some 109))), (2, .inr (.inr (some 82))), (1, .inr (.inr (some 10))), (0, .inr (.inr (some 8)))], [.inl (3), .inl (i), .inr (.inr (some 8)), .inl (sl.getD (i + 2).toNat 0), .inl (sl.getD (i + 1).toNat 0), .inr (.inr (some 10))], (I, L, R, Y), nc, ns) (fun _ => rfl) ?_
  refine yi_L_iadd rfl (i + 3) (yi_wn (by omega) (by omega)) ?_
  refine yi_L_ald rfl (by omega) (by omega) ?_
  refine yi_L_callv rfl rfl (cl_rcv (cl_10 hJ.1.1) rfl) rfl (show yi_E zi_Ms 60 159 [.inr (.inr (some 10)), .inl (sl.getD (i + 1).toNat 0), .inl (sl.getD (i + 2).toNat 0), .inl (sl.getD (i + 3).toNat 0)] (I, L, R, Y) _ from yi_E_P (yi_E_P (x_holds _ _ _ _ hJ.1.1) (cx_P hJ.2.1 rfl (cx_lc cx_v10 (cx_lc (cx_v _) (cx_lc (cx_v _) (cx_lc (cx_v _) cx_l0)))))) (yi_P_a (cn_P hW.1.1 (by decide +kernel) (cn_vn (cn_vp (by omega) (by omega)) (cn_vn (cn_vi _) (cn_vn (cn_vi _) (cn_vn (cn_vi _) cn_v0))))) (mn_P hW.2.1 (by decide +kernel) (mn_vn (mn_vp (by omega) (by omega)) (mn_vn (mn_vi _) (mn_vn (mn_vi _) (mn_vn (mn_vi _) mn_v0))))))) ?_
  rintro _ ⟨⟨⟨z1, I1, L1, R1, Y1, c1, s1, rfl, hP, hc, hs⟩, hcx⟩, hcw, hcm⟩
  have hcw : cn_H R Y R1 Y1 := hcw
  have hcm : mn_H I I1 R1 Y1 := hcm
  have hS1 := lw_S hJ.1.2.1 hJ.1.1 hP
  have hI1 := lw_IV hJ.1.2.2.1 hP
  have hN1 := hP.1.2.2.1.1
  show yi_L zi_Ms 60 sl zi_mlaw (718, [(4, .inl i), (3, .inr (.inr (some 109))), (2, .inr (.inr (some 82))), (1, .inr (.inr (some 10))), (0, .inr (.inr (some 8)))], [.inl (z1)], (I1, L1, R1, Y1), nc + c1, ns + s1) _
  refine yi_L_run 5 (724, [(4, .inl i), (3, .inr (.inr (some 109))), (2, .inr (.inr (some 82))), (1, .inr (.inr (some 10))), (0, .inr (.inr (some 8)))], [.inl (1), .inl (i), .inr (.inr (some 8)), .inr (.inr (some 82))], (I1, L1, R1, Y1), nc + c1, ns + s1) (fun _ => rfl) ?_
  refine yi_L_iadd rfl (i + 1) (yi_wn (by omega) (by omega)) ?_
  refine yi_L_ald rfl (by omega) (by omega) ?_
  refine yi_L_run 3 (730, [(4, .inl i), (3, .inr (.inr (some 109))), (2, .inr (.inr (some 82))), (1, .inr (.inr (some 10))), (0, .inr (.inr (some 8)))], [.inl (2), .inl (i), .inr (.inr (some 8)), .inl (sl.getD (i + 1).toNat 0), .inr (.inr (some 82))], (I1, L1, R1, Y1), nc + c1, ns + s1) (fun _ => rfl) ?_
  refine yi_L_iadd rfl (i + 2) (yi_wn (by omega) (by omega)) ?_
  refine yi_L_ald rfl (by omega) (by omega) ?_
  refine yi_L_run 3 (736, [(4, .inl i), (3, .inr (.inr (some 109))), (2, .inr (.inr (some 82))), (1, .inr (.inr (some 10))), (0, .inr (.inr (some 8)))], [.inl (3), .inl (i), .inr (.inr (some 8)), .inl (sl.getD (i + 2).toNat 0), .inl (sl.getD (i + 1).toNat 0), .inr (.inr (some 82))], (I1, L1, R1, Y1), nc + c1, ns + s1) (fun _ => rfl) ?_
  refine yi_L_iadd rfl (i + 3) (yi_wn (by omega) (by omega)) ?_
  refine yi_L_ald rfl (by omega) (by omega) ?_
  refine yi_L_callv rfl rfl (ym_rcv hS1) rfl (show yi_E zi_Ms 60 41 [.inr (.inr (some 82)), .inl (sl.getD (i + 1).toNat 0), .inl (sl.getD (i + 2).toNat 0), .inl (sl.getD (i + 3).toNat 0)] (I1, L1, R1, Y1) _ from yi_E_P (m_holds _ _ _ hS1 hI1) (mn_P hcm.1 (by decide +kernel) (mn_vn (mn_vp (by omega) (by omega)) (mn_vn (mn_vi _) (mn_vn (mn_vi _) (mn_vn (mn_vi _) mn_v0)))))) ?_
  rintro _ ⟨⟨z2, I2, L2, rfl, mf, iv, e2⟩, hcm2⟩
  show yi_L zi_Ms 60 sl zi_mlaw (741, [(4, .inl i), (3, .inr (.inr (some 109))), (2, .inr (.inr (some 82))), (1, .inr (.inr (some 10))), (0, .inr (.inr (some 8)))], [.inl (z2)], (I2, L2, R1, Y1), nc + c1 + 0, ns + s1 + 0) _
  refine yi_L_run 2 (1398, [(4, .inl i), (3, .inr (.inr (some 109))), (2, .inr (.inr (some 82))), (1, .inr (.inr (some 10))), (0, .inr (.inr (some 8)))], [], (I2, L2, R1, Y1), nc + c1 + 0, ns + s1 + 0) (fun _ => rfl) ?_
  exact yi_L_end ⟨_, _, _, _, _, _, rfl, ⟨lw_K_s hJ hP hc hs hcx mf iv e2, lw_W_s hW hcw hcm hcm2⟩⟩
theorem lw_o15 {sl : List Int} {n : Nat} {i : Int} (hi : 0 ≤ i) (h7 : i + 7 ≤ sl.length) (hL : sl.length ≤ 3584) {I L : cl_I} {R : cl_Rr} {Y : cl_Y} {nc ns : Nat} (hM : lw_M n I L R Y nc ns) : yi_L zi_Ms 60 sl zi_mlaw (745, [(4, .inl i), (3, .inr (.inr (some 109))), (2, .inr (.inr (some 82))), (1, .inr (.inr (some 10))), (0, .inr (.inr (some 8)))], [], (I, L, R, Y), nc, ns) (lw_Q n i) := by
  obtain ⟨hJ, hW⟩ := hM
  have hN := hJ.1.1.2.2.1.1
  refine yi_L_run 4 (750, [(4, .inl i), (3, .inr (.inr (some 109))), (2, .inr (.inr (some 82))), (1, .inr (.inr (some 10))), (0, .inr (.inr (some 8)))], [.inl (1), .inl (i), .inr (.inr (some 8)), .inr (.inr (some 10))], (I, L, R, Y), nc, ns) (fun _ => rfl) ?_
  refine yi_L_iadd rfl (i + 1) (yi_wn (by omega) (by omega)) ?_
  refine yi_L_ald rfl (by omega) (by omega) ?_
  refine yi_L_callv rfl rfl (cl_rcv (cl_10 hJ.1.1) rfl) rfl (show yi_E zi_Ms 60 140 [.inr (.inr (some 10)), .inl (sl.getD (i + 1).toNat 0)] (I, L, R, Y) _ from yi_E_P (yi_E_P (x_asked _ _ _ _ hJ.1.1) (cx_P hJ.2.1 rfl (cx_lc cx_v10 (cx_lc (cx_v _) cx_l0)))) (yi_P_a (cn_P hW.1.1 (by decide +kernel) (cn_vn (cn_vp (by omega) (by omega)) (cn_vn (cn_vi _) cn_v0))) (mn_P hW.2.1 (by decide +kernel) (mn_vn (mn_vp (by omega) (by omega)) (mn_vn (mn_vi _) mn_v0))))) ?_
  rintro _ ⟨⟨⟨z1, I1, L1, R1, Y1, c1, s1, rfl, hP, hc, hs⟩, hcx⟩, hcw, hcm⟩
  have hcw : cn_H R Y R1 Y1 := hcw
  have hcm : mn_H I I1 R1 Y1 := hcm
  have hS1 := lw_S hJ.1.2.1 hJ.1.1 hP
  have hI1 := lw_IV hJ.1.2.2.1 hP
  have hN1 := hP.1.2.2.1.1
  show yi_L zi_Ms 60 sl zi_mlaw (755, [(4, .inl i), (3, .inr (.inr (some 109))), (2, .inr (.inr (some 82))), (1, .inr (.inr (some 10))), (0, .inr (.inr (some 8)))], [.inl (z1)], (I1, L1, R1, Y1), nc + c1, ns + s1) _
  refine yi_L_run 5 (761, [(4, .inl i), (3, .inr (.inr (some 109))), (2, .inr (.inr (some 82))), (1, .inr (.inr (some 10))), (0, .inr (.inr (some 8)))], [.inl (1), .inl (i), .inr (.inr (some 8)), .inr (.inr (some 82))], (I1, L1, R1, Y1), nc + c1, ns + s1) (fun _ => rfl) ?_
  refine yi_L_iadd rfl (i + 1) (yi_wn (by omega) (by omega)) ?_
  refine yi_L_ald rfl (by omega) (by omega) ?_
  refine yi_L_callv rfl rfl (ym_rcv hS1) rfl (show yi_E zi_Ms 60 2 [.inr (.inr (some 82)), .inl (sl.getD (i + 1).toNat 0)] (I1, L1, R1, Y1) _ from yi_E_P (m_asked _ _ _ hS1 hI1) (mn_P hcm.1 (by decide +kernel) (mn_vn (mn_vp (by omega) (by omega)) (mn_vn (mn_vi _) mn_v0)))) ?_
  rintro _ ⟨⟨z2, I2, L2, rfl, mf, iv, e2⟩, hcm2⟩
  show yi_L zi_Ms 60 sl zi_mlaw (766, [(4, .inl i), (3, .inr (.inr (some 109))), (2, .inr (.inr (some 82))), (1, .inr (.inr (some 10))), (0, .inr (.inr (some 8)))], [.inl (z2)], (I2, L2, R1, Y1), nc + c1 + 0, ns + s1 + 0) _
  refine yi_L_run 2 (1398, [(4, .inl i), (3, .inr (.inr (some 109))), (2, .inr (.inr (some 82))), (1, .inr (.inr (some 10))), (0, .inr (.inr (some 8)))], [], (I2, L2, R1, Y1), nc + c1 + 0, ns + s1 + 0) (fun _ => rfl) ?_
  exact yi_L_end ⟨_, _, _, _, _, _, rfl, ⟨lw_K_s hJ hP hc hs hcx mf iv e2, lw_W_s hW hcw hcm hcm2⟩⟩
theorem lw_o16 {sl : List Int} {n : Nat} {i : Int} (hi : 0 ≤ i) (h7 : i + 7 ≤ sl.length) (hL : sl.length ≤ 3584) {I L : cl_I} {R : cl_Rr} {Y : cl_Y} {nc ns : Nat} (hM : lw_M n I L R Y nc ns) : yi_L zi_Ms 60 sl zi_mlaw (770, [(4, .inl i), (3, .inr (.inr (some 109))), (2, .inr (.inr (some 82))), (1, .inr (.inr (some 10))), (0, .inr (.inr (some 8)))], [], (I, L, R, Y), nc, ns) (lw_Q n i) := by
  obtain ⟨hJ, hW⟩ := hM
  have hN := hJ.1.1.2.2.1.1
  refine yi_L_run 1 (771, [(4, .inl i), (3, .inr (.inr (some 109))), (2, .inr (.inr (some 82))), (1, .inr (.inr (some 10))), (0, .inr (.inr (some 8)))], [.inr (.inr (some 10))], (I, L, R, Y), nc, ns) (fun _ => rfl) ?_
  refine yi_L_callv rfl rfl (cl_rcv (cl_10 hJ.1.1) rfl) rfl (show yi_E zi_Ms 60 184 [.inr (.inr (some 10))] (I, L, R, Y) _ from yi_E_P (yi_E_P (x_why _ _ _ _ hJ.1.1) (cx_P hJ.2.1 rfl (cx_lc cx_v10 cx_l0))) (yi_P_a (cn_P hW.1.1 (by decide +kernel) (cn_vn (cn_vp (by omega) (by omega)) cn_v0)) (mn_P hW.2.1 (by decide +kernel) (mn_vn (mn_vp (by omega) (by omega)) mn_v0)))) ?_
  rintro _ ⟨⟨⟨z1, I1, L1, R1, Y1, c1, s1, rfl, hP, hc, hs⟩, hcx⟩, hcw, hcm⟩
  have hcw : cn_H R Y R1 Y1 := hcw
  have hcm : mn_H I I1 R1 Y1 := hcm
  have hS1 := lw_S hJ.1.2.1 hJ.1.1 hP
  have hI1 := lw_IV hJ.1.2.2.1 hP
  have hN1 := hP.1.2.2.1.1
  show yi_L zi_Ms 60 sl zi_mlaw (774, [(4, .inl i), (3, .inr (.inr (some 109))), (2, .inr (.inr (some 82))), (1, .inr (.inr (some 10))), (0, .inr (.inr (some 8)))], [.inl (z1)], (I1, L1, R1, Y1), nc + c1, ns + s1) _
  refine yi_L_run 2 (776, [(4, .inl i), (3, .inr (.inr (some 109))), (2, .inr (.inr (some 82))), (1, .inr (.inr (some 10))), (0, .inr (.inr (some 8)))], [.inr (.inr (some 82))], (I1, L1, R1, Y1), nc + c1, ns + s1) (fun _ => rfl) ?_
  refine yi_L_callv rfl rfl (ym_rcv hS1) rfl (show yi_E zi_Ms 60 127 [.inr (.inr (some 82))] (I1, L1, R1, Y1) _ from yi_E_P (m_why _ _ _ hS1 hI1) (mn_P hcm.1 (by decide +kernel) (mn_vn (mn_vp (by omega) (by omega)) mn_v0))) ?_
  rintro _ ⟨⟨z2, I2, L2, rfl, mf, iv, e2⟩, hcm2⟩
  show yi_L zi_Ms 60 sl zi_mlaw (779, [(4, .inl i), (3, .inr (.inr (some 109))), (2, .inr (.inr (some 82))), (1, .inr (.inr (some 10))), (0, .inr (.inr (some 8)))], [.inl (z2)], (I2, L2, R1, Y1), nc + c1 + 0, ns + s1 + 0) _
  refine yi_L_run 2 (1398, [(4, .inl i), (3, .inr (.inr (some 109))), (2, .inr (.inr (some 82))), (1, .inr (.inr (some 10))), (0, .inr (.inr (some 8)))], [], (I2, L2, R1, Y1), nc + c1 + 0, ns + s1 + 0) (fun _ => rfl) ?_
  exact yi_L_end ⟨_, _, _, _, _, _, rfl, ⟨lw_K_s hJ hP hc hs hcx mf iv e2, lw_W_s hW hcw hcm hcm2⟩⟩
theorem lw_o17 {sl : List Int} {n : Nat} {i : Int} (hi : 0 ≤ i) (h7 : i + 7 ≤ sl.length) (hL : sl.length ≤ 3584) {I L : cl_I} {R : cl_Rr} {Y : cl_Y} {nc ns : Nat} (hM : lw_M n I L R Y nc ns) : yi_L zi_Ms 60 sl zi_mlaw (783, [(4, .inl i), (3, .inr (.inr (some 109))), (2, .inr (.inr (some 82))), (1, .inr (.inr (some 10))), (0, .inr (.inr (some 8)))], [], (I, L, R, Y), nc, ns) (lw_Q n i) := by
  obtain ⟨hJ, hW⟩ := hM
  have hN := hJ.1.1.2.2.1.1
  refine yi_L_run 1 (784, [(4, .inl i), (3, .inr (.inr (some 109))), (2, .inr (.inr (some 82))), (1, .inr (.inr (some 10))), (0, .inr (.inr (some 8)))], [.inr (.inr (some 10))], (I, L, R, Y), nc, ns) (fun _ => rfl) ?_
  refine yi_L_callv rfl rfl (cl_rcv (cl_10 hJ.1.1) rfl) rfl (show yi_E zi_Ms 60 178 [.inr (.inr (some 10))] (I, L, R, Y) _ from yi_E_P (yi_E_P (x_struck _ _ _ _ hJ.1.1) (cx_P hJ.2.1 rfl (cx_lc cx_v10 cx_l0))) (yi_P_a (cn_P hW.1.1 (by decide +kernel) (cn_vn (cn_vp (by omega) (by omega)) cn_v0)) (mn_P hW.2.1 (by decide +kernel) (mn_vn (mn_vp (by omega) (by omega)) mn_v0)))) ?_
  rintro _ ⟨⟨⟨z1, I1, L1, R1, Y1, c1, s1, rfl, hP, hc, hs⟩, hcx⟩, hcw, hcm⟩
  have hcw : cn_H R Y R1 Y1 := hcw
  have hcm : mn_H I I1 R1 Y1 := hcm
  have hS1 := lw_S hJ.1.2.1 hJ.1.1 hP
  have hI1 := lw_IV hJ.1.2.2.1 hP
  have hN1 := hP.1.2.2.1.1
  show yi_L zi_Ms 60 sl zi_mlaw (787, [(4, .inl i), (3, .inr (.inr (some 109))), (2, .inr (.inr (some 82))), (1, .inr (.inr (some 10))), (0, .inr (.inr (some 8)))], [.inl (z1)], (I1, L1, R1, Y1), nc + c1, ns + s1) _
  refine yi_L_run 2 (789, [(4, .inl i), (3, .inr (.inr (some 109))), (2, .inr (.inr (some 82))), (1, .inr (.inr (some 10))), (0, .inr (.inr (some 8)))], [.inr (.inr (some 82))], (I1, L1, R1, Y1), nc + c1, ns + s1) (fun _ => rfl) ?_
  refine yi_L_callv rfl rfl (ym_rcv hS1) rfl (show yi_E zi_Ms 60 113 [.inr (.inr (some 82))] (I1, L1, R1, Y1) _ from yi_E_P (m_struck _ _ _ hS1 hI1) (mn_P hcm.1 (by decide +kernel) (mn_vn (mn_vp (by omega) (by omega)) mn_v0))) ?_
  rintro _ ⟨⟨z2, I2, L2, rfl, mf, iv, e2⟩, hcm2⟩
  show yi_L zi_Ms 60 sl zi_mlaw (792, [(4, .inl i), (3, .inr (.inr (some 109))), (2, .inr (.inr (some 82))), (1, .inr (.inr (some 10))), (0, .inr (.inr (some 8)))], [.inl (z2)], (I2, L2, R1, Y1), nc + c1 + 0, ns + s1 + 0) _
  refine yi_L_run 2 (1398, [(4, .inl i), (3, .inr (.inr (some 109))), (2, .inr (.inr (some 82))), (1, .inr (.inr (some 10))), (0, .inr (.inr (some 8)))], [], (I2, L2, R1, Y1), nc + c1 + 0, ns + s1 + 0) (fun _ => rfl) ?_
  exact yi_L_end ⟨_, _, _, _, _, _, rfl, ⟨lw_K_s hJ hP hc hs hcx mf iv e2, lw_W_s hW hcw hcm hcm2⟩⟩
theorem lw_o18 {sl : List Int} {n : Nat} {i : Int} (hi : 0 ≤ i) (h7 : i + 7 ≤ sl.length) (hL : sl.length ≤ 3584) {I L : cl_I} {R : cl_Rr} {Y : cl_Y} {nc ns : Nat} (hM : lw_M n I L R Y nc ns) : yi_L zi_Ms 60 sl zi_mlaw (796, [(4, .inl i), (3, .inr (.inr (some 109))), (2, .inr (.inr (some 82))), (1, .inr (.inr (some 10))), (0, .inr (.inr (some 8)))], [], (I, L, R, Y), nc, ns) (lw_Q n i) := by
  obtain ⟨hJ, hW⟩ := hM
  have hN := hJ.1.1.2.2.1.1
  refine yi_L_run 4 (801, [(4, .inl i), (3, .inr (.inr (some 109))), (2, .inr (.inr (some 82))), (1, .inr (.inr (some 10))), (0, .inr (.inr (some 8)))], [.inl (1), .inl (i), .inr (.inr (some 8)), .inr (.inr (some 10))], (I, L, R, Y), nc, ns) (fun _ => rfl) ?_
  refine yi_L_iadd rfl (i + 1) (yi_wn (by omega) (by omega)) ?_
  refine yi_L_ald rfl (by omega) (by omega) ?_
  refine yi_L_run 3 (807, [(4, .inl i), (3, .inr (.inr (some 109))), (2, .inr (.inr (some 82))), (1, .inr (.inr (some 10))), (0, .inr (.inr (some 8)))], [.inl (2), .inl (i), .inr (.inr (some 8)), .inl (sl.getD (i + 1).toNat 0), .inr (.inr (some 10))], (I, L, R, Y), nc, ns) (fun _ => rfl) ?_
  refine yi_L_iadd rfl (i + 2) (yi_wn (by omega) (by omega)) ?_
  refine yi_L_ald rfl (by omega) (by omega) ?_
  refine yi_L_run 3 (813, [(4, .inl i), (3, .inr (.inr (some 109))), (2, .inr (.inr (some 82))), (1, .inr (.inr (some 10))), (0, .inr (.inr (some 8)))], [.inl (3), .inl (i), .inr (.inr (some 8)), .inl (sl.getD (i + 2).toNat 0), .inl (sl.getD (i + 1).toNat 0), .inr (.inr (some 10))], (I, L, R, Y), nc, ns) (fun _ => rfl) ?_
  refine yi_L_iadd rfl (i + 3) (yi_wn (by omega) (by omega)) ?_
  refine yi_L_ald rfl (by omega) (by omega) ?_
  refine yi_L_run 3 (819, [(4, .inl i), (3, .inr (.inr (some 109))), (2, .inr (.inr (some 82))), (1, .inr (.inr (some 10))), (0, .inr (.inr (some 8)))], [.inl (4), .inl (i), .inr (.inr (some 8)), .inl (sl.getD (i + 3).toNat 0), .inl (sl.getD (i + 2).toNat 0), .inl (sl.getD (i + 1).toNat 0), .inr (.inr (some 10))], (I, L, R, Y), nc, ns) (fun _ => rfl) ?_
  refine yi_L_iadd rfl (i + 4) (yi_wn (by omega) (by omega)) ?_
  refine yi_L_ald rfl (by omega) (by omega) ?_
  refine yi_L_callv rfl rfl (cl_rcv (cl_10 hJ.1.1) rfl) rfl (show yi_E zi_Ms 60 164 [.inr (.inr (some 10)), .inl (sl.getD (i + 1).toNat 0), .inl (sl.getD (i + 2).toNat 0), .inl (sl.getD (i + 3).toNat 0), .inl (sl.getD (i + 4).toNat 0)] (I, L, R, Y) _ from yi_E_P (yi_E_P (x_making _ _ _ _ hJ.1.1) (cx_P hJ.2.1 rfl (cx_lc cx_v10 (cx_lc (cx_v _) (cx_lc (cx_v _) (cx_lc (cx_v _) (cx_lc (cx_v _) cx_l0))))))) (yi_P_a (cn_P hW.1.1 (by decide +kernel) (cn_vn (cn_vp (by omega) (by omega)) (cn_vn (cn_vi _) (cn_vn (cn_vi _) (cn_vn (cn_vi _) (cn_vn (cn_vi _) cn_v0)))))) (mn_P hW.2.1 (by decide +kernel) (mn_vn (mn_vp (by omega) (by omega)) (mn_vn (mn_vi _) (mn_vn (mn_vi _) (mn_vn (mn_vi _) (mn_vn (mn_vi _) mn_v0)))))))) ?_
  rintro _ ⟨⟨⟨z1, I1, L1, R1, Y1, c1, s1, rfl, hP, hc, hs⟩, hcx⟩, hcw, hcm⟩
  have hcw : cn_H R Y R1 Y1 := hcw
  have hcm : mn_H I I1 R1 Y1 := hcm
  have hS1 := lw_S hJ.1.2.1 hJ.1.1 hP
  have hI1 := lw_IV hJ.1.2.2.1 hP
  have hN1 := hP.1.2.2.1.1
  show yi_L zi_Ms 60 sl zi_mlaw (824, [(4, .inl i), (3, .inr (.inr (some 109))), (2, .inr (.inr (some 82))), (1, .inr (.inr (some 10))), (0, .inr (.inr (some 8)))], [.inl (z1)], (I1, L1, R1, Y1), nc + c1, ns + s1) _
  refine yi_L_run 5 (830, [(4, .inl i), (3, .inr (.inr (some 109))), (2, .inr (.inr (some 82))), (1, .inr (.inr (some 10))), (0, .inr (.inr (some 8)))], [.inl (1), .inl (i), .inr (.inr (some 8)), .inr (.inr (some 82))], (I1, L1, R1, Y1), nc + c1, ns + s1) (fun _ => rfl) ?_
  refine yi_L_iadd rfl (i + 1) (yi_wn (by omega) (by omega)) ?_
  refine yi_L_ald rfl (by omega) (by omega) ?_
  refine yi_L_run 3 (836, [(4, .inl i), (3, .inr (.inr (some 109))), (2, .inr (.inr (some 82))), (1, .inr (.inr (some 10))), (0, .inr (.inr (some 8)))], [.inl (2), .inl (i), .inr (.inr (some 8)), .inl (sl.getD (i + 1).toNat 0), .inr (.inr (some 82))], (I1, L1, R1, Y1), nc + c1, ns + s1) (fun _ => rfl) ?_
  refine yi_L_iadd rfl (i + 2) (yi_wn (by omega) (by omega)) ?_
  refine yi_L_ald rfl (by omega) (by omega) ?_
  refine yi_L_run 3 (842, [(4, .inl i), (3, .inr (.inr (some 109))), (2, .inr (.inr (some 82))), (1, .inr (.inr (some 10))), (0, .inr (.inr (some 8)))], [.inl (3), .inl (i), .inr (.inr (some 8)), .inl (sl.getD (i + 2).toNat 0), .inl (sl.getD (i + 1).toNat 0), .inr (.inr (some 82))], (I1, L1, R1, Y1), nc + c1, ns + s1) (fun _ => rfl) ?_
  refine yi_L_iadd rfl (i + 3) (yi_wn (by omega) (by omega)) ?_
  refine yi_L_ald rfl (by omega) (by omega) ?_
  refine yi_L_run 3 (848, [(4, .inl i), (3, .inr (.inr (some 109))), (2, .inr (.inr (some 82))), (1, .inr (.inr (some 10))), (0, .inr (.inr (some 8)))], [.inl (4), .inl (i), .inr (.inr (some 8)), .inl (sl.getD (i + 3).toNat 0), .inl (sl.getD (i + 2).toNat 0), .inl (sl.getD (i + 1).toNat 0), .inr (.inr (some 82))], (I1, L1, R1, Y1), nc + c1, ns + s1) (fun _ => rfl) ?_
  refine yi_L_iadd rfl (i + 4) (yi_wn (by omega) (by omega)) ?_
  refine yi_L_ald rfl (by omega) (by omega) ?_
  refine yi_L_callv rfl rfl (ym_rcv hS1) rfl (show yi_E zi_Ms 60 79 [.inr (.inr (some 82)), .inl (sl.getD (i + 1).toNat 0), .inl (sl.getD (i + 2).toNat 0), .inl (sl.getD (i + 3).toNat 0), .inl (sl.getD (i + 4).toNat 0)] (I1, L1, R1, Y1) _ from yi_E_P (m_making _ _ _ hS1 hI1) (mn_P hcm.1 (by decide +kernel) (mn_vn (mn_vp (by omega) (by omega)) (mn_vn (mn_vi _) (mn_vn (mn_vi _) (mn_vn (mn_vi _) (mn_vn (mn_vi _) mn_v0))))))) ?_
  rintro _ ⟨⟨z2, I2, L2, rfl, mf, iv, e2⟩, hcm2⟩
  show yi_L zi_Ms 60 sl zi_mlaw (853, [(4, .inl i), (3, .inr (.inr (some 109))), (2, .inr (.inr (some 82))), (1, .inr (.inr (some 10))), (0, .inr (.inr (some 8)))], [.inl (z2)], (I2, L2, R1, Y1), nc + c1 + 0, ns + s1 + 0) _
  refine yi_L_run 2 (1398, [(4, .inl i), (3, .inr (.inr (some 109))), (2, .inr (.inr (some 82))), (1, .inr (.inr (some 10))), (0, .inr (.inr (some 8)))], [], (I2, L2, R1, Y1), nc + c1 + 0, ns + s1 + 0) (fun _ => rfl) ?_
  exact yi_L_end ⟨_, _, _, _, _, _, rfl, ⟨lw_K_s hJ hP hc hs hcx mf iv e2, lw_W_s hW hcw hcm hcm2⟩⟩
theorem lw_o19 {sl : List Int} {n : Nat} {i : Int} (hi : 0 ≤ i) (h7 : i + 7 ≤ sl.length) (hL : sl.length ≤ 3584) {I L : cl_I} {R : cl_Rr} {Y : cl_Y} {nc ns : Nat} (hM : lw_M n I L R Y nc ns) : yi_L zi_Ms 60 sl zi_mlaw (857, [(4, .inl i), (3, .inr (.inr (some 109))), (2, .inr (.inr (some 82))), (1, .inr (.inr (some 10))), (0, .inr (.inr (some 8)))], [], (I, L, R, Y), nc, ns) (lw_Q n i) := by
  obtain ⟨hJ, hW⟩ := hM
  have hN := hJ.1.1.2.2.1.1
  refine yi_L_run 4 (862, [(4, .inl i), (3, .inr (.inr (some 109))), (2, .inr (.inr (some 82))), (1, .inr (.inr (some 10))), (0, .inr (.inr (some 8)))], [.inl (1), .inl (i), .inr (.inr (some 8)), .inr (.inr (some 10))], (I, L, R, Y), nc, ns) (fun _ => rfl) ?_
  refine yi_L_iadd rfl (i + 1) (yi_wn (by omega) (by omega)) ?_
  refine yi_L_ald rfl (by omega) (by omega) ?_
  by_cases hb : (sl.getD (i + 1).toNat 0) = 0
  · refine yi_L_if1 true rfl (yi_eq_t hb) ?_
    refine yi_L_run 1 (872, [(4, .inl i), (3, .inr (.inr (some 109))), (2, .inr (.inr (some 82))), (1, .inr (.inr (some 10))), (0, .inr (.inr (some 8)))], [.inl (0), .inr (.inr (some 10))], (I, L, R, Y), nc, ns) (fun _ => rfl) ?_
    refine yi_L_callv rfl rfl (cl_rcv (cl_10 hJ.1.1) rfl) rfl (show yi_E zi_Ms 60 185 [.inr (.inr (some 10)), .inl (0)] (I, L, R, Y) _ from yi_E_P (yi_E_P (x_widest _ _ _ _ hJ.1.1) (cx_P hJ.2.1 rfl (cx_lc cx_v10 (cx_lc (cx_v _) cx_l0)))) (yi_P_a (cn_P hW.1.1 (by decide +kernel) (cn_vn (cn_vp (by omega) (by omega)) (cn_vn (cn_vi _) cn_v0))) (mn_P hW.2.1 (by decide +kernel) (mn_vn (mn_vp (by omega) (by omega)) (mn_vn (mn_vi _) mn_v0))))) ?_
    rintro _ ⟨⟨⟨z1, I1, L1, R1, Y1, c1, s1, rfl, hP, hc, hs⟩, hcx⟩, hcw, hcm⟩
    have hcw : cn_H R Y R1 Y1 := hcw
    have hcm : mn_H I I1 R1 Y1 := hcm
    have hS1 := lw_S hJ.1.2.1 hJ.1.1 hP
    have hI1 := lw_IV hJ.1.2.2.1 hP
    have hN1 := hP.1.2.2.1.1
    show yi_L zi_Ms 60 sl zi_mlaw (875, [(4, .inl i), (3, .inr (.inr (some 109))), (2, .inr (.inr (some 82))), (1, .inr (.inr (some 10))), (0, .inr (.inr (some 8)))], [.inl (z1)], (I1, L1, R1, Y1), nc + c1, ns + s1) _
    refine yi_L_run 5 (881, [(4, .inl i), (3, .inr (.inr (some 109))), (2, .inr (.inr (some 82))), (1, .inr (.inr (some 10))), (0, .inr (.inr (some 8)))], [.inl (1), .inl (i), .inr (.inr (some 8)), .inr (.inr (some 82))], (I1, L1, R1, Y1), nc + c1, ns + s1) (fun _ => rfl) ?_
    refine yi_L_iadd rfl (i + 1) (yi_wn (by omega) (by omega)) ?_
    refine yi_L_ald rfl (by omega) (by omega) ?_
    refine yi_L_if1 true rfl (yi_eq_t hb) ?_
    refine yi_L_run 1 (891, [(4, .inl i), (3, .inr (.inr (some 109))), (2, .inr (.inr (some 82))), (1, .inr (.inr (some 10))), (0, .inr (.inr (some 8)))], [.inl (0), .inr (.inr (some 82))], (I1, L1, R1, Y1), nc + c1, ns + s1) (fun _ => rfl) ?_
    refine yi_L_callv rfl rfl (ym_rcv hS1) rfl (show yi_E zi_Ms 60 128 [.inr (.inr (some 82)), .inl (0)] (I1, L1, R1, Y1) _ from yi_E_P (m_widest _ _ _ hS1 hI1) (mn_P hcm.1 (by decide +kernel) (mn_vn (mn_vp (by omega) (by omega)) (mn_vn (mn_vi _) mn_v0)))) ?_
    rintro _ ⟨⟨z2, I2, L2, rfl, mf, iv, e2⟩, hcm2⟩
    show yi_L zi_Ms 60 sl zi_mlaw (894, [(4, .inl i), (3, .inr (.inr (some 109))), (2, .inr (.inr (some 82))), (1, .inr (.inr (some 10))), (0, .inr (.inr (some 8)))], [.inl (z2)], (I2, L2, R1, Y1), nc + c1 + 0, ns + s1 + 0) _
    refine yi_L_run 2 (1398, [(4, .inl i), (3, .inr (.inr (some 109))), (2, .inr (.inr (some 82))), (1, .inr (.inr (some 10))), (0, .inr (.inr (some 8)))], [], (I2, L2, R1, Y1), nc + c1 + 0, ns + s1 + 0) (fun _ => rfl) ?_
    exact yi_L_end ⟨_, _, _, _, _, _, rfl, ⟨lw_K_s hJ hP hc hs hcx mf iv e2, lw_W_s hW hcw hcm hcm2⟩⟩
  · refine yi_L_if1 false rfl (yi_eq_f hb) ?_
    refine yi_L_run 2 (872, [(4, .inl i), (3, .inr (.inr (some 109))), (2, .inr (.inr (some 82))), (1, .inr (.inr (some 10))), (0, .inr (.inr (some 8)))], [.inl (1), .inr (.inr (some 10))], (I, L, R, Y), nc, ns) (fun _ => rfl) ?_
    refine yi_L_callv rfl rfl (cl_rcv (cl_10 hJ.1.1) rfl) rfl (show yi_E zi_Ms 60 185 [.inr (.inr (some 10)), .inl (1)] (I, L, R, Y) _ from yi_E_P (yi_E_P (x_widest _ _ _ _ hJ.1.1) (cx_P hJ.2.1 rfl (cx_lc cx_v10 (cx_lc (cx_v _) cx_l0)))) (yi_P_a (cn_P hW.1.1 (by decide +kernel) (cn_vn (cn_vp (by omega) (by omega)) (cn_vn (cn_vi _) cn_v0))) (mn_P hW.2.1 (by decide +kernel) (mn_vn (mn_vp (by omega) (by omega)) (mn_vn (mn_vi _) mn_v0))))) ?_
    rintro _ ⟨⟨⟨z1, I1, L1, R1, Y1, c1, s1, rfl, hP, hc, hs⟩, hcx⟩, hcw, hcm⟩
    have hcw : cn_H R Y R1 Y1 := hcw
    have hcm : mn_H I I1 R1 Y1 := hcm
    have hS1 := lw_S hJ.1.2.1 hJ.1.1 hP
    have hI1 := lw_IV hJ.1.2.2.1 hP
    have hN1 := hP.1.2.2.1.1
    show yi_L zi_Ms 60 sl zi_mlaw (875, [(4, .inl i), (3, .inr (.inr (some 109))), (2, .inr (.inr (some 82))), (1, .inr (.inr (some 10))), (0, .inr (.inr (some 8)))], [.inl (z1)], (I1, L1, R1, Y1), nc + c1, ns + s1) _
    refine yi_L_run 5 (881, [(4, .inl i), (3, .inr (.inr (some 109))), (2, .inr (.inr (some 82))), (1, .inr (.inr (some 10))), (0, .inr (.inr (some 8)))], [.inl (1), .inl (i), .inr (.inr (some 8)), .inr (.inr (some 82))], (I1, L1, R1, Y1), nc + c1, ns + s1) (fun _ => rfl) ?_
    refine yi_L_iadd rfl (i + 1) (yi_wn (by omega) (by omega)) ?_
    refine yi_L_ald rfl (by omega) (by omega) ?_
    refine yi_L_if1 false rfl (yi_eq_f hb) ?_
    refine yi_L_run 2 (891, [(4, .inl i), (3, .inr (.inr (some 109))), (2, .inr (.inr (some 82))), (1, .inr (.inr (some 10))), (0, .inr (.inr (some 8)))], [.inl (1), .inr (.inr (some 82))], (I1, L1, R1, Y1), nc + c1, ns + s1) (fun _ => rfl) ?_
    refine yi_L_callv rfl rfl (ym_rcv hS1) rfl (show yi_E zi_Ms 60 128 [.inr (.inr (some 82)), .inl (1)] (I1, L1, R1, Y1) _ from yi_E_P (m_widest _ _ _ hS1 hI1) (mn_P hcm.1 (by decide +kernel) (mn_vn (mn_vp (by omega) (by omega)) (mn_vn (mn_vi _) mn_v0)))) ?_
    rintro _ ⟨⟨z2, I2, L2, rfl, mf, iv, e2⟩, hcm2⟩
    show yi_L zi_Ms 60 sl zi_mlaw (894, [(4, .inl i), (3, .inr (.inr (some 109))), (2, .inr (.inr (some 82))), (1, .inr (.inr (some 10))), (0, .inr (.inr (some 8)))], [.inl (z2)], (I2, L2, R1, Y1), nc + c1 + 0, ns + s1 + 0) _
    refine yi_L_run 2 (1398, [(4, .inl i), (3, .inr (.inr (some 109))), (2, .inr (.inr (some 82))), (1, .inr (.inr (some 10))), (0, .inr (.inr (some 8)))], [], (I2, L2, R1, Y1), nc + c1 + 0, ns + s1 + 0) (fun _ => rfl) ?_
    exact yi_L_end ⟨_, _, _, _, _, _, rfl, ⟨lw_K_s hJ hP hc hs hcx mf iv e2, lw_W_s hW hcw hcm hcm2⟩⟩
theorem lw_o20 {sl : List Int} {n : Nat} {i : Int} (hi : 0 ≤ i) (h7 : i + 7 ≤ sl.length) (hL : sl.length ≤ 3584) {I L : cl_I} {R : cl_Rr} {Y : cl_Y} {nc ns : Nat} (hM : lw_M n I L R Y nc ns) : yi_L zi_Ms 60 sl zi_mlaw (898, [(4, .inl i), (3, .inr (.inr (some 109))), (2, .inr (.inr (some 82))), (1, .inr (.inr (some 10))), (0, .inr (.inr (some 8)))], [], (I, L, R, Y), nc, ns) (lw_Q n i) := by
  obtain ⟨hJ, hW⟩ := hM
  have hN := hJ.1.1.2.2.1.1
  refine yi_L_run 4 (903, [(4, .inl i), (3, .inr (.inr (some 109))), (2, .inr (.inr (some 82))), (1, .inr (.inr (some 10))), (0, .inr (.inr (some 8)))], [.inl (1), .inl (i), .inr (.inr (some 8)), .inr (.inr (some 10))], (I, L, R, Y), nc, ns) (fun _ => rfl) ?_
  refine yi_L_iadd rfl (i + 1) (yi_wn (by omega) (by omega)) ?_
  refine yi_L_ald rfl (by omega) (by omega) ?_
  refine yi_L_run 3 (909, [(4, .inl i), (3, .inr (.inr (some 109))), (2, .inr (.inr (some 82))), (1, .inr (.inr (some 10))), (0, .inr (.inr (some 8)))], [.inl (2), .inl (i), .inr (.inr (some 8)), .inl (sl.getD (i + 1).toNat 0), .inr (.inr (some 10))], (I, L, R, Y), nc, ns) (fun _ => rfl) ?_
  refine yi_L_iadd rfl (i + 2) (yi_wn (by omega) (by omega)) ?_
  refine yi_L_ald rfl (by omega) (by omega) ?_
  refine yi_L_run 3 (915, [(4, .inl i), (3, .inr (.inr (some 109))), (2, .inr (.inr (some 82))), (1, .inr (.inr (some 10))), (0, .inr (.inr (some 8)))], [.inl (3), .inl (i), .inr (.inr (some 8)), .inl (sl.getD (i + 2).toNat 0), .inl (sl.getD (i + 1).toNat 0), .inr (.inr (some 10))], (I, L, R, Y), nc, ns) (fun _ => rfl) ?_
  refine yi_L_iadd rfl (i + 3) (yi_wn (by omega) (by omega)) ?_
  refine yi_L_ald rfl (by omega) (by omega) ?_
  refine yi_L_callv rfl rfl (cl_rcv (cl_10 hJ.1.1) rfl) rfl (show yi_E zi_Ms 60 182 [.inr (.inr (some 10)), .inl (sl.getD (i + 1).toNat 0), .inl (sl.getD (i + 2).toNat 0), .inl (sl.getD (i + 3).toNat 0)] (I, L, R, Y) _ from yi_E_P (yi_E_P (x_vague _ _ _ _ hJ.1.1) (cx_P hJ.2.1 rfl (cx_lc cx_v10 (cx_lc (cx_v _) (cx_lc (cx_v _) (cx_lc (cx_v _) cx_l0)))))) (yi_P_a (cn_P hW.1.1 (by decide +kernel) (cn_vn (cn_vp (by omega) (by omega)) (cn_vn (cn_vi _) (cn_vn (cn_vi _) (cn_vn (cn_vi _) cn_v0))))) (mn_P hW.2.1 (by decide +kernel) (mn_vn (mn_vp (by omega) (by omega)) (mn_vn (mn_vi _) (mn_vn (mn_vi _) (mn_vn (mn_vi _) mn_v0))))))) ?_
  rintro _ ⟨⟨⟨z1, I1, L1, R1, Y1, c1, s1, rfl, hP, hc, hs⟩, hcx⟩, hcw, hcm⟩
  have hcw : cn_H R Y R1 Y1 := hcw
  have hcm : mn_H I I1 R1 Y1 := hcm
  have hS1 := lw_S hJ.1.2.1 hJ.1.1 hP
  have hI1 := lw_IV hJ.1.2.2.1 hP
  have hN1 := hP.1.2.2.1.1
  show yi_L zi_Ms 60 sl zi_mlaw (920, [(4, .inl i), (3, .inr (.inr (some 109))), (2, .inr (.inr (some 82))), (1, .inr (.inr (some 10))), (0, .inr (.inr (some 8)))], [.inl (z1)], (I1, L1, R1, Y1), nc + c1, ns + s1) _
  refine yi_L_run 5 (926, [(4, .inl i), (3, .inr (.inr (some 109))), (2, .inr (.inr (some 82))), (1, .inr (.inr (some 10))), (0, .inr (.inr (some 8)))], [.inl (1), .inl (i), .inr (.inr (some 8)), .inr (.inr (some 82))], (I1, L1, R1, Y1), nc + c1, ns + s1) (fun _ => rfl) ?_
  refine yi_L_iadd rfl (i + 1) (yi_wn (by omega) (by omega)) ?_
  refine yi_L_ald rfl (by omega) (by omega) ?_
  refine yi_L_run 3 (932, [(4, .inl i), (3, .inr (.inr (some 109))), (2, .inr (.inr (some 82))), (1, .inr (.inr (some 10))), (0, .inr (.inr (some 8)))], [.inl (2), .inl (i), .inr (.inr (some 8)), .inl (sl.getD (i + 1).toNat 0), .inr (.inr (some 82))], (I1, L1, R1, Y1), nc + c1, ns + s1) (fun _ => rfl) ?_
  refine yi_L_iadd rfl (i + 2) (yi_wn (by omega) (by omega)) ?_
  refine yi_L_ald rfl (by omega) (by omega) ?_
  refine yi_L_run 3 (938, [(4, .inl i), (3, .inr (.inr (some 109))), (2, .inr (.inr (some 82))), (1, .inr (.inr (some 10))), (0, .inr (.inr (some 8)))], [.inl (3), .inl (i), .inr (.inr (some 8)), .inl (sl.getD (i + 2).toNat 0), .inl (sl.getD (i + 1).toNat 0), .inr (.inr (some 82))], (I1, L1, R1, Y1), nc + c1, ns + s1) (fun _ => rfl) ?_
  refine yi_L_iadd rfl (i + 3) (yi_wn (by omega) (by omega)) ?_
  refine yi_L_ald rfl (by omega) (by omega) ?_
  refine yi_L_callv rfl rfl (ym_rcv hS1) rfl (show yi_E zi_Ms 60 125 [.inr (.inr (some 82)), .inl (sl.getD (i + 1).toNat 0), .inl (sl.getD (i + 2).toNat 0), .inl (sl.getD (i + 3).toNat 0)] (I1, L1, R1, Y1) _ from yi_E_P (m_vague _ _ _ hS1 hI1) (mn_P hcm.1 (by decide +kernel) (mn_vn (mn_vp (by omega) (by omega)) (mn_vn (mn_vi _) (mn_vn (mn_vi _) (mn_vn (mn_vi _) mn_v0)))))) ?_
  rintro _ ⟨⟨z2, I2, L2, rfl, mf, iv, e2⟩, hcm2⟩
  show yi_L zi_Ms 60 sl zi_mlaw (943, [(4, .inl i), (3, .inr (.inr (some 109))), (2, .inr (.inr (some 82))), (1, .inr (.inr (some 10))), (0, .inr (.inr (some 8)))], [.inl (z2)], (I2, L2, R1, Y1), nc + c1 + 0, ns + s1 + 0) _
  refine yi_L_run 2 (1398, [(4, .inl i), (3, .inr (.inr (some 109))), (2, .inr (.inr (some 82))), (1, .inr (.inr (some 10))), (0, .inr (.inr (some 8)))], [], (I2, L2, R1, Y1), nc + c1 + 0, ns + s1 + 0) (fun _ => rfl) ?_
  exact yi_L_end ⟨_, _, _, _, _, _, rfl, ⟨lw_K_s hJ hP hc hs hcx mf iv e2, lw_W_s hW hcw hcm hcm2⟩⟩
theorem lw_o21 {sl : List Int} {n : Nat} {i : Int} (hi : 0 ≤ i) (h7 : i + 7 ≤ sl.length) (hL : sl.length ≤ 3584) {I L : cl_I} {R : cl_Rr} {Y : cl_Y} {nc ns : Nat} (hM : lw_M n I L R Y nc ns) : yi_L zi_Ms 60 sl zi_mlaw (947, [(4, .inl i), (3, .inr (.inr (some 109))), (2, .inr (.inr (some 82))), (1, .inr (.inr (some 10))), (0, .inr (.inr (some 8)))], [], (I, L, R, Y), nc, ns) (lw_Q n i) := by
  obtain ⟨hJ, hW⟩ := hM
  have hN := hJ.1.1.2.2.1.1
  refine yi_L_run 4 (952, [(4, .inl i), (3, .inr (.inr (some 109))), (2, .inr (.inr (some 82))), (1, .inr (.inr (some 10))), (0, .inr (.inr (some 8)))], [.inl (1), .inl (i), .inr (.inr (some 8)), .inr (.inr (some 10))], (I, L, R, Y), nc, ns) (fun _ => rfl) ?_
  refine yi_L_iadd rfl (i + 1) (yi_wn (by omega) (by omega)) ?_
  refine yi_L_ald rfl (by omega) (by omega) ?_
  refine yi_L_run 3 (958, [(4, .inl i), (3, .inr (.inr (some 109))), (2, .inr (.inr (some 82))), (1, .inr (.inr (some 10))), (0, .inr (.inr (some 8)))], [.inl (2), .inl (i), .inr (.inr (some 8)), .inl (sl.getD (i + 1).toNat 0), .inr (.inr (some 10))], (I, L, R, Y), nc, ns) (fun _ => rfl) ?_
  refine yi_L_iadd rfl (i + 2) (yi_wn (by omega) (by omega)) ?_
  refine yi_L_ald rfl (by omega) (by omega) ?_
  refine yi_L_run 3 (964, [(4, .inl i), (3, .inr (.inr (some 109))), (2, .inr (.inr (some 82))), (1, .inr (.inr (some 10))), (0, .inr (.inr (some 8)))], [.inl (3), .inl (i), .inr (.inr (some 8)), .inl (sl.getD (i + 2).toNat 0), .inl (sl.getD (i + 1).toNat 0), .inr (.inr (some 10))], (I, L, R, Y), nc, ns) (fun _ => rfl) ?_
  refine yi_L_iadd rfl (i + 3) (yi_wn (by omega) (by omega)) ?_
  refine yi_L_ald rfl (by omega) (by omega) ?_
  refine yi_L_callv rfl rfl (cl_rcv (cl_10 hJ.1.1) rfl) rfl (show yi_E zi_Ms 60 175 [.inr (.inr (some 10)), .inl (sl.getD (i + 1).toNat 0), .inl (sl.getD (i + 2).toNat 0), .inl (sl.getD (i + 3).toNat 0)] (I, L, R, Y) _ from yi_E_P (yi_E_P (x_span _ _ _ _ hJ.1.1) (cx_P hJ.2.1 rfl (cx_lc cx_v10 (cx_lc (cx_v _) (cx_lc (cx_v _) (cx_lc (cx_v _) cx_l0)))))) (yi_P_a (cn_P hW.1.1 (by decide +kernel) (cn_vn (cn_vp (by omega) (by omega)) (cn_vn (cn_vi _) (cn_vn (cn_vi _) (cn_vn (cn_vi _) cn_v0))))) (mn_P hW.2.1 (by decide +kernel) (mn_vn (mn_vp (by omega) (by omega)) (mn_vn (mn_vi _) (mn_vn (mn_vi _) (mn_vn (mn_vi _) mn_v0))))))) ?_
  rintro _ ⟨⟨⟨z1, I1, L1, R1, Y1, c1, s1, rfl, hP, hc, hs⟩, hcx⟩, hcw, hcm⟩
  have hcw : cn_H R Y R1 Y1 := hcw
  have hcm : mn_H I I1 R1 Y1 := hcm
  have hS1 := lw_S hJ.1.2.1 hJ.1.1 hP
  have hI1 := lw_IV hJ.1.2.2.1 hP
  have hN1 := hP.1.2.2.1.1
  show yi_L zi_Ms 60 sl zi_mlaw (969, [(4, .inl i), (3, .inr (.inr (some 109))), (2, .inr (.inr (some 82))), (1, .inr (.inr (some 10))), (0, .inr (.inr (some 8)))], [.inl (z1)], (I1, L1, R1, Y1), nc + c1, ns + s1) _
  refine yi_L_run 5 (975, [(4, .inl i), (3, .inr (.inr (some 109))), (2, .inr (.inr (some 82))), (1, .inr (.inr (some 10))), (0, .inr (.inr (some 8)))], [.inl (1), .inl (i), .inr (.inr (some 8)), .inr (.inr (some 82))], (I1, L1, R1, Y1), nc + c1, ns + s1) (fun _ => rfl) ?_
  refine yi_L_iadd rfl (i + 1) (yi_wn (by omega) (by omega)) ?_
  refine yi_L_ald rfl (by omega) (by omega) ?_
  refine yi_L_run 3 (981, [(4, .inl i), (3, .inr (.inr (some 109))), (2, .inr (.inr (some 82))), (1, .inr (.inr (some 10))), (0, .inr (.inr (some 8)))], [.inl (2), .inl (i), .inr (.inr (some 8)), .inl (sl.getD (i + 1).toNat 0), .inr (.inr (some 82))], (I1, L1, R1, Y1), nc + c1, ns + s1) (fun _ => rfl) ?_
  refine yi_L_iadd rfl (i + 2) (yi_wn (by omega) (by omega)) ?_
  refine yi_L_ald rfl (by omega) (by omega) ?_
  refine yi_L_run 3 (987, [(4, .inl i), (3, .inr (.inr (some 109))), (2, .inr (.inr (some 82))), (1, .inr (.inr (some 10))), (0, .inr (.inr (some 8)))], [.inl (3), .inl (i), .inr (.inr (some 8)), .inl (sl.getD (i + 2).toNat 0), .inl (sl.getD (i + 1).toNat 0), .inr (.inr (some 82))], (I1, L1, R1, Y1), nc + c1, ns + s1) (fun _ => rfl) ?_
  refine yi_L_iadd rfl (i + 3) (yi_wn (by omega) (by omega)) ?_
  refine yi_L_ald rfl (by omega) (by omega) ?_
  refine yi_L_callv rfl rfl (ym_rcv hS1) rfl (show yi_E zi_Ms 60 110 [.inr (.inr (some 82)), .inl (sl.getD (i + 1).toNat 0), .inl (sl.getD (i + 2).toNat 0), .inl (sl.getD (i + 3).toNat 0)] (I1, L1, R1, Y1) _ from yi_E_P (m_span _ _ _ hS1 hI1) (mn_P hcm.1 (by decide +kernel) (mn_vn (mn_vp (by omega) (by omega)) (mn_vn (mn_vi _) (mn_vn (mn_vi _) (mn_vn (mn_vi _) mn_v0)))))) ?_
  rintro _ ⟨⟨z2, I2, L2, rfl, mf, iv, e2⟩, hcm2⟩
  show yi_L zi_Ms 60 sl zi_mlaw (992, [(4, .inl i), (3, .inr (.inr (some 109))), (2, .inr (.inr (some 82))), (1, .inr (.inr (some 10))), (0, .inr (.inr (some 8)))], [.inl (z2)], (I2, L2, R1, Y1), nc + c1 + 0, ns + s1 + 0) _
  refine yi_L_run 2 (1398, [(4, .inl i), (3, .inr (.inr (some 109))), (2, .inr (.inr (some 82))), (1, .inr (.inr (some 10))), (0, .inr (.inr (some 8)))], [], (I2, L2, R1, Y1), nc + c1 + 0, ns + s1 + 0) (fun _ => rfl) ?_
  exact yi_L_end ⟨_, _, _, _, _, _, rfl, ⟨lw_K_s hJ hP hc hs hcx mf iv e2, lw_W_s hW hcw hcm hcm2⟩⟩
theorem lw_o23 {sl : List Int} {n : Nat} {i : Int} (hi : 0 ≤ i) (h7 : i + 7 ≤ sl.length) (hL : sl.length ≤ 3584) {I L : cl_I} {R : cl_Rr} {Y : cl_Y} {nc ns : Nat} (hM : lw_M n I L R Y nc ns) : yi_L zi_Ms 60 sl zi_mlaw (1048, [(4, .inl i), (3, .inr (.inr (some 109))), (2, .inr (.inr (some 82))), (1, .inr (.inr (some 10))), (0, .inr (.inr (some 8)))], [], (I, L, R, Y), nc, ns) (lw_Q n i) := by
  obtain ⟨hJ, hW⟩ := hM
  have hN := hJ.1.1.2.2.1.1
  refine yi_L_run 4 (1053, [(4, .inl i), (3, .inr (.inr (some 109))), (2, .inr (.inr (some 82))), (1, .inr (.inr (some 10))), (0, .inr (.inr (some 8)))], [.inl (1), .inl (i), .inr (.inr (some 8)), .inr (.inr (some 10))], (I, L, R, Y), nc, ns) (fun _ => rfl) ?_
  refine yi_L_iadd rfl (i + 1) (yi_wn (by omega) (by omega)) ?_
  refine yi_L_ald rfl (by omega) (by omega) ?_
  refine yi_L_run 3 (1059, [(4, .inl i), (3, .inr (.inr (some 109))), (2, .inr (.inr (some 82))), (1, .inr (.inr (some 10))), (0, .inr (.inr (some 8)))], [.inl (2), .inl (i), .inr (.inr (some 8)), .inl (sl.getD (i + 1).toNat 0), .inr (.inr (some 10))], (I, L, R, Y), nc, ns) (fun _ => rfl) ?_
  refine yi_L_iadd rfl (i + 2) (yi_wn (by omega) (by omega)) ?_
  refine yi_L_ald rfl (by omega) (by omega) ?_
  refine yi_L_callv rfl rfl (cl_rcv (cl_10 hJ.1.1) rfl) rfl (show yi_E zi_Ms 60 161 [.inr (.inr (some 10)), .inl (sl.getD (i + 1).toNat 0), .inl (sl.getD (i + 2).toNat 0)] (I, L, R, Y) _ from yi_E_P (yi_E_P (x_knew _ _ _ _ hJ.1.1) (cx_P hJ.2.1 rfl (cx_lc cx_v10 (cx_lc (cx_v _) (cx_lc (cx_v _) cx_l0))))) (yi_P_a (cn_P hW.1.1 (by decide +kernel) (cn_vn (cn_vp (by omega) (by omega)) (cn_vn (cn_vi _) (cn_vn (cn_vi _) cn_v0)))) (mn_P hW.2.1 (by decide +kernel) (mn_vn (mn_vp (by omega) (by omega)) (mn_vn (mn_vi _) (mn_vn (mn_vi _) mn_v0)))))) ?_
  rintro _ ⟨⟨⟨z1, I1, L1, R1, Y1, c1, s1, rfl, hP, hc, hs⟩, hcx⟩, hcw, hcm⟩
  have hcw : cn_H R Y R1 Y1 := hcw
  have hcm : mn_H I I1 R1 Y1 := hcm
  have hS1 := lw_S hJ.1.2.1 hJ.1.1 hP
  have hI1 := lw_IV hJ.1.2.2.1 hP
  have hN1 := hP.1.2.2.1.1
  show yi_L zi_Ms 60 sl zi_mlaw (1064, [(4, .inl i), (3, .inr (.inr (some 109))), (2, .inr (.inr (some 82))), (1, .inr (.inr (some 10))), (0, .inr (.inr (some 8)))], [.inl (z1)], (I1, L1, R1, Y1), nc + c1, ns + s1) _
  refine yi_L_run 5 (1070, [(4, .inl i), (3, .inr (.inr (some 109))), (2, .inr (.inr (some 82))), (1, .inr (.inr (some 10))), (0, .inr (.inr (some 8)))], [.inl (1), .inl (i), .inr (.inr (some 8)), .inr (.inr (some 82))], (I1, L1, R1, Y1), nc + c1, ns + s1) (fun _ => rfl) ?_
  refine yi_L_iadd rfl (i + 1) (yi_wn (by omega) (by omega)) ?_
  refine yi_L_ald rfl (by omega) (by omega) ?_
  refine yi_L_run 3 (1076, [(4, .inl i), (3, .inr (.inr (some 109))), (2, .inr (.inr (some 82))), (1, .inr (.inr (some 10))), (0, .inr (.inr (some 8)))], [.inl (2), .inl (i), .inr (.inr (some 8)), .inl (sl.getD (i + 1).toNat 0), .inr (.inr (some 82))], (I1, L1, R1, Y1), nc + c1, ns + s1) (fun _ => rfl) ?_
  refine yi_L_iadd rfl (i + 2) (yi_wn (by omega) (by omega)) ?_
  refine yi_L_ald rfl (by omega) (by omega) ?_
  refine yi_L_callv rfl rfl (ym_rcv hS1) rfl (show yi_E zi_Ms 60 71 [.inr (.inr (some 82)), .inl (sl.getD (i + 1).toNat 0), .inl (sl.getD (i + 2).toNat 0)] (I1, L1, R1, Y1) _ from yi_E_P (m_knew _ _ _ hS1 hI1) (mn_P hcm.1 (by decide +kernel) (mn_vn (mn_vp (by omega) (by omega)) (mn_vn (mn_vi _) (mn_vn (mn_vi _) mn_v0))))) ?_
  rintro _ ⟨⟨z2, I2, L2, rfl, mf, iv, e2⟩, hcm2⟩
  show yi_L zi_Ms 60 sl zi_mlaw (1081, [(4, .inl i), (3, .inr (.inr (some 109))), (2, .inr (.inr (some 82))), (1, .inr (.inr (some 10))), (0, .inr (.inr (some 8)))], [.inl (z2)], (I2, L2, R1, Y1), nc + c1 + 0, ns + s1 + 0) _
  refine yi_L_run 2 (1398, [(4, .inl i), (3, .inr (.inr (some 109))), (2, .inr (.inr (some 82))), (1, .inr (.inr (some 10))), (0, .inr (.inr (some 8)))], [], (I2, L2, R1, Y1), nc + c1 + 0, ns + s1 + 0) (fun _ => rfl) ?_
  exact yi_L_end ⟨_, _, _, _, _, _, rfl, ⟨lw_K_s hJ hP hc hs hcx mf iv e2, lw_W_s hW hcw hcm hcm2⟩⟩
theorem lw_o24 {sl : List Int} {n : Nat} {i : Int} (hi : 0 ≤ i) (h7 : i + 7 ≤ sl.length) (hL : sl.length ≤ 3584) {I L : cl_I} {R : cl_Rr} {Y : cl_Y} {nc ns : Nat} (hM : lw_M n I L R Y nc ns) : yi_L zi_Ms 60 sl zi_mlaw (1085, [(4, .inl i), (3, .inr (.inr (some 109))), (2, .inr (.inr (some 82))), (1, .inr (.inr (some 10))), (0, .inr (.inr (some 8)))], [], (I, L, R, Y), nc, ns) (lw_Q n i) := by
  obtain ⟨hJ, hW⟩ := hM
  have hN := hJ.1.1.2.2.1.1
  refine yi_L_run 4 (1090, [(4, .inl i), (3, .inr (.inr (some 109))), (2, .inr (.inr (some 82))), (1, .inr (.inr (some 10))), (0, .inr (.inr (some 8)))], [.inl (1), .inl (i), .inr (.inr (some 8)), .inr (.inr (some 10))], (I, L, R, Y), nc, ns) (fun _ => rfl) ?_
  refine yi_L_iadd rfl (i + 1) (yi_wn (by omega) (by omega)) ?_
  refine yi_L_ald rfl (by omega) (by omega) ?_
  refine yi_L_run 3 (1096, [(4, .inl i), (3, .inr (.inr (some 109))), (2, .inr (.inr (some 82))), (1, .inr (.inr (some 10))), (0, .inr (.inr (some 8)))], [.inl (2), .inl (i), .inr (.inr (some 8)), .inl (sl.getD (i + 1).toNat 0), .inr (.inr (some 10))], (I, L, R, Y), nc, ns) (fun _ => rfl) ?_
  refine yi_L_iadd rfl (i + 2) (yi_wn (by omega) (by omega)) ?_
  refine yi_L_ald rfl (by omega) (by omega) ?_
  refine yi_L_callv rfl rfl (cl_rcv (cl_10 hJ.1.1) rfl) rfl (show yi_E zi_Ms 60 187 [.inr (.inr (some 10)), .inl (sl.getD (i + 1).toNat 0), .inl (sl.getD (i + 2).toNat 0)] (I, L, R, Y) _ from yi_E_P (yi_E_P (x_wish _ _ _ _ hJ.1.1) (cx_P hJ.2.1 rfl (cx_lc cx_v10 (cx_lc (cx_v _) (cx_lc (cx_v _) cx_l0))))) (yi_P_a (cn_P hW.1.1 (by decide +kernel) (cn_vn (cn_vp (by omega) (by omega)) (cn_vn (cn_vi _) (cn_vn (cn_vi _) cn_v0)))) (mn_P hW.2.1 (by decide +kernel) (mn_vn (mn_vp (by omega) (by omega)) (mn_vn (mn_vi _) (mn_vn (mn_vi _) mn_v0)))))) ?_
  rintro _ ⟨⟨⟨z1, I1, L1, R1, Y1, c1, s1, rfl, hP, hc, hs⟩, hcx⟩, hcw, hcm⟩
  have hcw : cn_H R Y R1 Y1 := hcw
  have hcm : mn_H I I1 R1 Y1 := hcm
  have hS1 := lw_S hJ.1.2.1 hJ.1.1 hP
  have hI1 := lw_IV hJ.1.2.2.1 hP
  have hN1 := hP.1.2.2.1.1
  show yi_L zi_Ms 60 sl zi_mlaw (1101, [(4, .inl i), (3, .inr (.inr (some 109))), (2, .inr (.inr (some 82))), (1, .inr (.inr (some 10))), (0, .inr (.inr (some 8)))], [.inl (z1)], (I1, L1, R1, Y1), nc + c1, ns + s1) _
  refine yi_L_run 5 (1107, [(4, .inl i), (3, .inr (.inr (some 109))), (2, .inr (.inr (some 82))), (1, .inr (.inr (some 10))), (0, .inr (.inr (some 8)))], [.inl (1), .inl (i), .inr (.inr (some 8)), .inr (.inr (some 82))], (I1, L1, R1, Y1), nc + c1, ns + s1) (fun _ => rfl) ?_
  refine yi_L_iadd rfl (i + 1) (yi_wn (by omega) (by omega)) ?_
  refine yi_L_ald rfl (by omega) (by omega) ?_
  refine yi_L_run 3 (1113, [(4, .inl i), (3, .inr (.inr (some 109))), (2, .inr (.inr (some 82))), (1, .inr (.inr (some 10))), (0, .inr (.inr (some 8)))], [.inl (2), .inl (i), .inr (.inr (some 8)), .inl (sl.getD (i + 1).toNat 0), .inr (.inr (some 82))], (I1, L1, R1, Y1), nc + c1, ns + s1) (fun _ => rfl) ?_
  refine yi_L_iadd rfl (i + 2) (yi_wn (by omega) (by omega)) ?_
  refine yi_L_ald rfl (by omega) (by omega) ?_
  refine yi_L_callv rfl rfl (ym_rcv hS1) rfl (show yi_E zi_Ms 60 130 [.inr (.inr (some 82)), .inl (sl.getD (i + 1).toNat 0), .inl (sl.getD (i + 2).toNat 0)] (I1, L1, R1, Y1) _ from yi_E_P (m_wish _ _ _ hS1 hI1) (mn_P hcm.1 (by decide +kernel) (mn_vn (mn_vp (by omega) (by omega)) (mn_vn (mn_vi _) (mn_vn (mn_vi _) mn_v0))))) ?_
  rintro _ ⟨⟨z2, I2, L2, rfl, mf, iv, e2⟩, hcm2⟩
  show yi_L zi_Ms 60 sl zi_mlaw (1118, [(4, .inl i), (3, .inr (.inr (some 109))), (2, .inr (.inr (some 82))), (1, .inr (.inr (some 10))), (0, .inr (.inr (some 8)))], [.inl (z2)], (I2, L2, R1, Y1), nc + c1 + 0, ns + s1 + 0) _
  refine yi_L_run 2 (1398, [(4, .inl i), (3, .inr (.inr (some 109))), (2, .inr (.inr (some 82))), (1, .inr (.inr (some 10))), (0, .inr (.inr (some 8)))], [], (I2, L2, R1, Y1), nc + c1 + 0, ns + s1 + 0) (fun _ => rfl) ?_
  exact yi_L_end ⟨_, _, _, _, _, _, rfl, ⟨lw_K_s hJ hP hc hs hcx mf iv e2, lw_W_s hW hcw hcm hcm2⟩⟩
theorem lw_o25 {sl : List Int} {n : Nat} {i : Int} (hi : 0 ≤ i) (h7 : i + 7 ≤ sl.length) (hL : sl.length ≤ 3584) {I L : cl_I} {R : cl_Rr} {Y : cl_Y} {nc ns : Nat} (hM : lw_M n I L R Y nc ns) : yi_L zi_Ms 60 sl zi_mlaw (1122, [(4, .inl i), (3, .inr (.inr (some 109))), (2, .inr (.inr (some 82))), (1, .inr (.inr (some 10))), (0, .inr (.inr (some 8)))], [], (I, L, R, Y), nc, ns) (lw_Q n i) := by
  obtain ⟨hJ, hW⟩ := hM
  have hN := hJ.1.1.2.2.1.1
  refine yi_L_run 4 (1127, [(4, .inl i), (3, .inr (.inr (some 109))), (2, .inr (.inr (some 82))), (1, .inr (.inr (some 10))), (0, .inr (.inr (some 8)))], [.inl (1), .inl (i), .inr (.inr (some 8)), .inr (.inr (some 10))], (I, L, R, Y), nc, ns) (fun _ => rfl) ?_
  refine yi_L_iadd rfl (i + 1) (yi_wn (by omega) (by omega)) ?_
  refine yi_L_ald rfl (by omega) (by omega) ?_
  refine yi_L_callv rfl rfl (cl_rcv (cl_10 hJ.1.1) rfl) rfl (show yi_E zi_Ms 60 141 [.inr (.inr (some 10)), .inl (sl.getD (i + 1).toNat 0)] (I, L, R, Y) _ from yi_E_P (yi_E_P (x_auction _ _ _ _ hJ.1.1) (cx_P hJ.2.1 rfl (cx_lc cx_v10 (cx_lc (cx_v _) cx_l0)))) (yi_P_a (cn_P hW.1.1 (by decide +kernel) (cn_vn (cn_vp (by omega) (by omega)) (cn_vn (cn_vi _) cn_v0))) (mn_P hW.2.1 (by decide +kernel) (mn_vn (mn_vp (by omega) (by omega)) (mn_vn (mn_vi _) mn_v0))))) ?_
  rintro _ ⟨⟨⟨z1, I1, L1, R1, Y1, c1, s1, rfl, hP, hc, hs⟩, hcx⟩, hcw, hcm⟩
  have hcw : cn_H R Y R1 Y1 := hcw
  have hcm : mn_H I I1 R1 Y1 := hcm
  have hS1 := lw_S hJ.1.2.1 hJ.1.1 hP
  have hI1 := lw_IV hJ.1.2.2.1 hP
  have hN1 := hP.1.2.2.1.1
  show yi_L zi_Ms 60 sl zi_mlaw (1132, [(4, .inl i), (3, .inr (.inr (some 109))), (2, .inr (.inr (some 82))), (1, .inr (.inr (some 10))), (0, .inr (.inr (some 8)))], [.inl (z1)], (I1, L1, R1, Y1), nc + c1, ns + s1) _
  refine yi_L_run 5 (1138, [(4, .inl i), (3, .inr (.inr (some 109))), (2, .inr (.inr (some 82))), (1, .inr (.inr (some 10))), (0, .inr (.inr (some 8)))], [.inl (1), .inl (i), .inr (.inr (some 8)), .inr (.inr (some 82))], (I1, L1, R1, Y1), nc + c1, ns + s1) (fun _ => rfl) ?_
  refine yi_L_iadd rfl (i + 1) (yi_wn (by omega) (by omega)) ?_
  refine yi_L_ald rfl (by omega) (by omega) ?_
  refine yi_L_callv rfl rfl (ym_rcv hS1) rfl (show yi_E zi_Ms 60 3 [.inr (.inr (some 82)), .inl (sl.getD (i + 1).toNat 0)] (I1, L1, R1, Y1) _ from yi_E_P (m_auction _ _ _ hS1 hI1) (mn_P hcm.1 (by decide +kernel) (mn_vn (mn_vp (by omega) (by omega)) (mn_vn (mn_vi _) mn_v0)))) ?_
  rintro _ ⟨⟨z2, I2, L2, rfl, mf, iv, e2⟩, hcm2⟩
  show yi_L zi_Ms 60 sl zi_mlaw (1143, [(4, .inl i), (3, .inr (.inr (some 109))), (2, .inr (.inr (some 82))), (1, .inr (.inr (some 10))), (0, .inr (.inr (some 8)))], [.inl (z2)], (I2, L2, R1, Y1), nc + c1 + 0, ns + s1 + 0) _
  refine yi_L_run 2 (1398, [(4, .inl i), (3, .inr (.inr (some 109))), (2, .inr (.inr (some 82))), (1, .inr (.inr (some 10))), (0, .inr (.inr (some 8)))], [], (I2, L2, R1, Y1), nc + c1 + 0, ns + s1 + 0) (fun _ => rfl) ?_
  exact yi_L_end ⟨_, _, _, _, _, _, rfl, ⟨lw_K_s hJ hP hc hs hcx mf iv e2, lw_W_s hW hcw hcm hcm2⟩⟩
theorem lw_o26 {sl : List Int} {n : Nat} {i : Int} (hi : 0 ≤ i) (h7 : i + 7 ≤ sl.length) (hL : sl.length ≤ 3584) {I L : cl_I} {R : cl_Rr} {Y : cl_Y} {nc ns : Nat} (hM : lw_M n I L R Y nc ns) : yi_L zi_Ms 60 sl zi_mlaw (1147, [(4, .inl i), (3, .inr (.inr (some 109))), (2, .inr (.inr (some 82))), (1, .inr (.inr (some 10))), (0, .inr (.inr (some 8)))], [], (I, L, R, Y), nc, ns) (lw_Q n i) := by
  obtain ⟨hJ, hW⟩ := hM
  have hN := hJ.1.1.2.2.1.1
  refine yi_L_run 4 (1152, [(4, .inl i), (3, .inr (.inr (some 109))), (2, .inr (.inr (some 82))), (1, .inr (.inr (some 10))), (0, .inr (.inr (some 8)))], [.inl (1), .inl (i), .inr (.inr (some 8)), .inr (.inr (some 10))], (I, L, R, Y), nc, ns) (fun _ => rfl) ?_
  refine yi_L_iadd rfl (i + 1) (yi_wn (by omega) (by omega)) ?_
  refine yi_L_ald rfl (by omega) (by omega) ?_
  refine yi_L_run 3 (1158, [(4, .inl i), (3, .inr (.inr (some 109))), (2, .inr (.inr (some 82))), (1, .inr (.inr (some 10))), (0, .inr (.inr (some 8)))], [.inl (2), .inl (i), .inr (.inr (some 8)), .inl (sl.getD (i + 1).toNat 0), .inr (.inr (some 10))], (I, L, R, Y), nc, ns) (fun _ => rfl) ?_
  refine yi_L_iadd rfl (i + 2) (yi_wn (by omega) (by omega)) ?_
  refine yi_L_ald rfl (by omega) (by omega) ?_
  refine yi_L_run 3 (1164, [(4, .inl i), (3, .inr (.inr (some 109))), (2, .inr (.inr (some 82))), (1, .inr (.inr (some 10))), (0, .inr (.inr (some 8)))], [.inl (3), .inl (i), .inr (.inr (some 8)), .inl (sl.getD (i + 2).toNat 0), .inl (sl.getD (i + 1).toNat 0), .inr (.inr (some 10))], (I, L, R, Y), nc, ns) (fun _ => rfl) ?_
  refine yi_L_iadd rfl (i + 3) (yi_wn (by omega) (by omega)) ?_
  refine yi_L_ald rfl (by omega) (by omega) ?_
  refine yi_L_callv rfl rfl (cl_rcv (cl_10 hJ.1.1) rfl) rfl (show yi_E zi_Ms 60 147 [.inr (.inr (some 10)), .inl (sl.getD (i + 1).toNat 0), .inl (sl.getD (i + 2).toNat 0), .inl (sl.getD (i + 3).toNat 0)] (I, L, R, Y) _ from yi_E_P (yi_E_P (x_duel _ _ _ _ hJ.1.1) (cx_P hJ.2.1 rfl (cx_lc cx_v10 (cx_lc (cx_v _) (cx_lc (cx_v _) (cx_lc (cx_v _) cx_l0)))))) (yi_P_a (cn_P hW.1.1 (by decide +kernel) (cn_vn (cn_vp (by omega) (by omega)) (cn_vn (cn_vi _) (cn_vn (cn_vi _) (cn_vn (cn_vi _) cn_v0))))) (mn_P hW.2.1 (by decide +kernel) (mn_vn (mn_vp (by omega) (by omega)) (mn_vn (mn_vi _) (mn_vn (mn_vi _) (mn_vn (mn_vi _) mn_v0))))))) ?_
  rintro _ ⟨⟨⟨z1, I1, L1, R1, Y1, c1, s1, rfl, hP, hc, hs⟩, hcx⟩, hcw, hcm⟩
  have hcw : cn_H R Y R1 Y1 := hcw
  have hcm : mn_H I I1 R1 Y1 := hcm
  have hS1 := lw_S hJ.1.2.1 hJ.1.1 hP
  have hI1 := lw_IV hJ.1.2.2.1 hP
  have hN1 := hP.1.2.2.1.1
  show yi_L zi_Ms 60 sl zi_mlaw (1169, [(4, .inl i), (3, .inr (.inr (some 109))), (2, .inr (.inr (some 82))), (1, .inr (.inr (some 10))), (0, .inr (.inr (some 8)))], [.inl (z1)], (I1, L1, R1, Y1), nc + c1, ns + s1) _
  refine yi_L_run 5 (1175, [(4, .inl i), (3, .inr (.inr (some 109))), (2, .inr (.inr (some 82))), (1, .inr (.inr (some 10))), (0, .inr (.inr (some 8)))], [.inl (1), .inl (i), .inr (.inr (some 8)), .inr (.inr (some 82))], (I1, L1, R1, Y1), nc + c1, ns + s1) (fun _ => rfl) ?_
  refine yi_L_iadd rfl (i + 1) (yi_wn (by omega) (by omega)) ?_
  refine yi_L_ald rfl (by omega) (by omega) ?_
  refine yi_L_run 3 (1181, [(4, .inl i), (3, .inr (.inr (some 109))), (2, .inr (.inr (some 82))), (1, .inr (.inr (some 10))), (0, .inr (.inr (some 8)))], [.inl (2), .inl (i), .inr (.inr (some 8)), .inl (sl.getD (i + 1).toNat 0), .inr (.inr (some 82))], (I1, L1, R1, Y1), nc + c1, ns + s1) (fun _ => rfl) ?_
  refine yi_L_iadd rfl (i + 2) (yi_wn (by omega) (by omega)) ?_
  refine yi_L_ald rfl (by omega) (by omega) ?_
  refine yi_L_run 3 (1187, [(4, .inl i), (3, .inr (.inr (some 109))), (2, .inr (.inr (some 82))), (1, .inr (.inr (some 10))), (0, .inr (.inr (some 8)))], [.inl (3), .inl (i), .inr (.inr (some 8)), .inl (sl.getD (i + 2).toNat 0), .inl (sl.getD (i + 1).toNat 0), .inr (.inr (some 82))], (I1, L1, R1, Y1), nc + c1, ns + s1) (fun _ => rfl) ?_
  refine yi_L_iadd rfl (i + 3) (yi_wn (by omega) (by omega)) ?_
  refine yi_L_ald rfl (by omega) (by omega) ?_
  refine yi_L_callv rfl rfl (ym_rcv hS1) rfl (show yi_E zi_Ms 60 20 [.inr (.inr (some 82)), .inl (sl.getD (i + 1).toNat 0), .inl (sl.getD (i + 2).toNat 0), .inl (sl.getD (i + 3).toNat 0)] (I1, L1, R1, Y1) _ from yi_E_P (m_duel _ _ _ hS1 hI1) (mn_P hcm.1 (by decide +kernel) (mn_vn (mn_vp (by omega) (by omega)) (mn_vn (mn_vi _) (mn_vn (mn_vi _) (mn_vn (mn_vi _) mn_v0)))))) ?_
  rintro _ ⟨⟨z2, I2, L2, rfl, mf, iv, e2⟩, hcm2⟩
  show yi_L zi_Ms 60 sl zi_mlaw (1192, [(4, .inl i), (3, .inr (.inr (some 109))), (2, .inr (.inr (some 82))), (1, .inr (.inr (some 10))), (0, .inr (.inr (some 8)))], [.inl (z2)], (I2, L2, R1, Y1), nc + c1 + 0, ns + s1 + 0) _
  refine yi_L_run 2 (1398, [(4, .inl i), (3, .inr (.inr (some 109))), (2, .inr (.inr (some 82))), (1, .inr (.inr (some 10))), (0, .inr (.inr (some 8)))], [], (I2, L2, R1, Y1), nc + c1 + 0, ns + s1 + 0) (fun _ => rfl) ?_
  exact yi_L_end ⟨_, _, _, _, _, _, rfl, ⟨lw_K_s hJ hP hc hs hcx mf iv e2, lw_W_s hW hcw hcm hcm2⟩⟩
theorem lw_o27 {sl : List Int} {n : Nat} {i : Int} (hi : 0 ≤ i) (h7 : i + 7 ≤ sl.length) (hL : sl.length ≤ 3584) {I L : cl_I} {R : cl_Rr} {Y : cl_Y} {nc ns : Nat} (hM : lw_M n I L R Y nc ns) : yi_L zi_Ms 60 sl zi_mlaw (1196, [(4, .inl i), (3, .inr (.inr (some 109))), (2, .inr (.inr (some 82))), (1, .inr (.inr (some 10))), (0, .inr (.inr (some 8)))], [], (I, L, R, Y), nc, ns) (lw_Q n i) := by
  obtain ⟨hJ, hW⟩ := hM
  have hN := hJ.1.1.2.2.1.1
  refine yi_L_run 1 (1197, [(4, .inl i), (3, .inr (.inr (some 109))), (2, .inr (.inr (some 82))), (1, .inr (.inr (some 10))), (0, .inr (.inr (some 8)))], [.inr (.inr (some 10))], (I, L, R, Y), nc, ns) (fun _ => rfl) ?_
  refine yi_L_callv rfl rfl (cl_rcv (cl_10 hJ.1.1) rfl) rfl (show yi_E zi_Ms 60 160 [.inr (.inr (some 10))] (I, L, R, Y) _ from yi_E_P (yi_E_P (x_kept _ _ _ _ hJ.1.1) (cx_P hJ.2.1 rfl (cx_lc cx_v10 cx_l0))) (yi_P_a (cn_P hW.1.1 (by decide +kernel) (cn_vn (cn_vp (by omega) (by omega)) cn_v0)) (mn_P hW.2.1 (by decide +kernel) (mn_vn (mn_vp (by omega) (by omega)) mn_v0)))) ?_
  rintro _ ⟨⟨⟨z1, I1, L1, R1, Y1, c1, s1, rfl, hP, hc, hs⟩, hcx⟩, hcw, hcm⟩
  have hcw : cn_H R Y R1 Y1 := hcw
  have hcm : mn_H I I1 R1 Y1 := hcm
  have hS1 := lw_S hJ.1.2.1 hJ.1.1 hP
  have hI1 := lw_IV hJ.1.2.2.1 hP
  have hN1 := hP.1.2.2.1.1
  show yi_L zi_Ms 60 sl zi_mlaw (1200, [(4, .inl i), (3, .inr (.inr (some 109))), (2, .inr (.inr (some 82))), (1, .inr (.inr (some 10))), (0, .inr (.inr (some 8)))], [.inl (z1)], (I1, L1, R1, Y1), nc + c1, ns + s1) _
  refine yi_L_run 2 (1202, [(4, .inl i), (3, .inr (.inr (some 109))), (2, .inr (.inr (some 82))), (1, .inr (.inr (some 10))), (0, .inr (.inr (some 8)))], [.inr (.inr (some 82))], (I1, L1, R1, Y1), nc + c1, ns + s1) (fun _ => rfl) ?_
  refine yi_L_callv rfl rfl (ym_rcv hS1) rfl (show yi_E zi_Ms 60 68 [.inr (.inr (some 82))] (I1, L1, R1, Y1) _ from yi_E_P (m_kept _ _ _ hS1 hI1) (mn_P hcm.1 (by decide +kernel) (mn_vn (mn_vp (by omega) (by omega)) mn_v0))) ?_
  rintro _ ⟨⟨z2, I2, L2, rfl, mf, iv, e2⟩, hcm2⟩
  show yi_L zi_Ms 60 sl zi_mlaw (1205, [(4, .inl i), (3, .inr (.inr (some 109))), (2, .inr (.inr (some 82))), (1, .inr (.inr (some 10))), (0, .inr (.inr (some 8)))], [.inl (z2)], (I2, L2, R1, Y1), nc + c1 + 0, ns + s1 + 0) _
  refine yi_L_run 2 (1398, [(4, .inl i), (3, .inr (.inr (some 109))), (2, .inr (.inr (some 82))), (1, .inr (.inr (some 10))), (0, .inr (.inr (some 8)))], [], (I2, L2, R1, Y1), nc + c1 + 0, ns + s1 + 0) (fun _ => rfl) ?_
  exact yi_L_end ⟨_, _, _, _, _, _, rfl, ⟨lw_K_s hJ hP hc hs hcx mf iv e2, lw_W_s hW hcw hcm hcm2⟩⟩
theorem lw_o28 {sl : List Int} {n : Nat} {i : Int} (hi : 0 ≤ i) (h7 : i + 7 ≤ sl.length) (hL : sl.length ≤ 3584) {I L : cl_I} {R : cl_Rr} {Y : cl_Y} {nc ns : Nat} (hM : lw_M n I L R Y nc ns) : yi_L zi_Ms 60 sl zi_mlaw (1209, [(4, .inl i), (3, .inr (.inr (some 109))), (2, .inr (.inr (some 82))), (1, .inr (.inr (some 10))), (0, .inr (.inr (some 8)))], [], (I, L, R, Y), nc, ns) (lw_Q n i) := by
  obtain ⟨hJ, hW⟩ := hM
  have hN := hJ.1.1.2.2.1.1
  refine yi_L_run 1 (1210, [(4, .inl i), (3, .inr (.inr (some 109))), (2, .inr (.inr (some 82))), (1, .inr (.inr (some 10))), (0, .inr (.inr (some 8)))], [.inr (.inr (some 10))], (I, L, R, Y), nc, ns) (fun _ => rfl) ?_
  refine yi_L_callv rfl rfl (cl_rcv (cl_10 hJ.1.1) rfl) rfl (show yi_E zi_Ms 60 174 [.inr (.inr (some 10))] (I, L, R, Y) _ from yi_E_P (yi_E_P (x_shorted _ _ _ _ hJ.1.1) (cx_P hJ.2.1 rfl (cx_lc cx_v10 cx_l0))) (yi_P_a (cn_P hW.1.1 (by decide +kernel) (cn_vn (cn_vp (by omega) (by omega)) cn_v0)) (mn_P hW.2.1 (by decide +kernel) (mn_vn (mn_vp (by omega) (by omega)) mn_v0)))) ?_
  rintro _ ⟨⟨⟨z1, I1, L1, R1, Y1, c1, s1, rfl, hP, hc, hs⟩, hcx⟩, hcw, hcm⟩
  have hcw : cn_H R Y R1 Y1 := hcw
  have hcm : mn_H I I1 R1 Y1 := hcm
  have hS1 := lw_S hJ.1.2.1 hJ.1.1 hP
  have hI1 := lw_IV hJ.1.2.2.1 hP
  have hN1 := hP.1.2.2.1.1
  show yi_L zi_Ms 60 sl zi_mlaw (1213, [(4, .inl i), (3, .inr (.inr (some 109))), (2, .inr (.inr (some 82))), (1, .inr (.inr (some 10))), (0, .inr (.inr (some 8)))], [.inl (z1)], (I1, L1, R1, Y1), nc + c1, ns + s1) _
  refine yi_L_run 2 (1215, [(4, .inl i), (3, .inr (.inr (some 109))), (2, .inr (.inr (some 82))), (1, .inr (.inr (some 10))), (0, .inr (.inr (some 8)))], [.inr (.inr (some 82))], (I1, L1, R1, Y1), nc + c1, ns + s1) (fun _ => rfl) ?_
  refine yi_L_callv rfl rfl (ym_rcv hS1) rfl (show yi_E zi_Ms 60 109 [.inr (.inr (some 82))] (I1, L1, R1, Y1) _ from yi_E_P (m_shorted _ _ _ hS1 hI1) (mn_P hcm.1 (by decide +kernel) (mn_vn (mn_vp (by omega) (by omega)) mn_v0))) ?_
  rintro _ ⟨⟨z2, I2, L2, rfl, mf, iv, e2⟩, hcm2⟩
  show yi_L zi_Ms 60 sl zi_mlaw (1218, [(4, .inl i), (3, .inr (.inr (some 109))), (2, .inr (.inr (some 82))), (1, .inr (.inr (some 10))), (0, .inr (.inr (some 8)))], [.inl (z2)], (I2, L2, R1, Y1), nc + c1 + 0, ns + s1 + 0) _
  refine yi_L_run 2 (1398, [(4, .inl i), (3, .inr (.inr (some 109))), (2, .inr (.inr (some 82))), (1, .inr (.inr (some 10))), (0, .inr (.inr (some 8)))], [], (I2, L2, R1, Y1), nc + c1 + 0, ns + s1 + 0) (fun _ => rfl) ?_
  exact yi_L_end ⟨_, _, _, _, _, _, rfl, ⟨lw_K_s hJ hP hc hs hcx mf iv e2, lw_W_s hW hcw hcm hcm2⟩⟩
theorem lw_o29 {sl : List Int} {n : Nat} {i : Int} (hi : 0 ≤ i) (h7 : i + 7 ≤ sl.length) (hL : sl.length ≤ 3584) {I L : cl_I} {R : cl_Rr} {Y : cl_Y} {nc ns : Nat} (hM : lw_M n I L R Y nc ns) : yi_L zi_Ms 60 sl zi_mlaw (1222, [(4, .inl i), (3, .inr (.inr (some 109))), (2, .inr (.inr (some 82))), (1, .inr (.inr (some 10))), (0, .inr (.inr (some 8)))], [], (I, L, R, Y), nc, ns) (lw_Q n i) := by
  obtain ⟨hJ, hW⟩ := hM
  have hN := hJ.1.1.2.2.1.1
  refine yi_L_run 4 (1227, [(4, .inl i), (3, .inr (.inr (some 109))), (2, .inr (.inr (some 82))), (1, .inr (.inr (some 10))), (0, .inr (.inr (some 8)))], [.inl (1), .inl (i), .inr (.inr (some 8)), .inr (.inr (some 10))], (I, L, R, Y), nc, ns) (fun _ => rfl) ?_
  refine yi_L_iadd rfl (i + 1) (yi_wn (by omega) (by omega)) ?_
  refine yi_L_ald rfl (by omega) (by omega) ?_
  refine yi_L_run 3 (1233, [(4, .inl i), (3, .inr (.inr (some 109))), (2, .inr (.inr (some 82))), (1, .inr (.inr (some 10))), (0, .inr (.inr (some 8)))], [.inl (2), .inl (i), .inr (.inr (some 8)), .inl (sl.getD (i + 1).toNat 0), .inr (.inr (some 10))], (I, L, R, Y), nc, ns) (fun _ => rfl) ?_
  refine yi_L_iadd rfl (i + 2) (yi_wn (by omega) (by omega)) ?_
  refine yi_L_ald rfl (by omega) (by omega) ?_
  refine yi_L_run 3 (1239, [(4, .inl i), (3, .inr (.inr (some 109))), (2, .inr (.inr (some 82))), (1, .inr (.inr (some 10))), (0, .inr (.inr (some 8)))], [.inl (3), .inl (i), .inr (.inr (some 8)), .inl (sl.getD (i + 2).toNat 0), .inl (sl.getD (i + 1).toNat 0), .inr (.inr (some 10))], (I, L, R, Y), nc, ns) (fun _ => rfl) ?_
  refine yi_L_iadd rfl (i + 3) (yi_wn (by omega) (by omega)) ?_
  refine yi_L_ald rfl (by omega) (by omega) ?_
  refine yi_L_callv rfl rfl (cl_rcv (cl_10 hJ.1.1) rfl) rfl (show yi_E zi_Ms 60 148 [.inr (.inr (some 10)), .inl (sl.getD (i + 1).toNat 0), .inl (sl.getD (i + 2).toNat 0), .inl (sl.getD (i + 3).toNat 0)] (I, L, R, Y) _ from yi_E_P (yi_E_P (x_fair _ _ _ _ hJ.1.1) (cx_P hJ.2.1 rfl (cx_lc cx_v10 (cx_lc (cx_v _) (cx_lc (cx_v _) (cx_lc (cx_v _) cx_l0)))))) (yi_P_a (cn_P hW.1.1 (by decide +kernel) (cn_vn (cn_vp (by omega) (by omega)) (cn_vn (cn_vi _) (cn_vn (cn_vi _) (cn_vn (cn_vi _) cn_v0))))) (mn_P hW.2.1 (by decide +kernel) (mn_vn (mn_vp (by omega) (by omega)) (mn_vn (mn_vi _) (mn_vn (mn_vi _) (mn_vn (mn_vi _) mn_v0))))))) ?_
  rintro _ ⟨⟨⟨z1, I1, L1, R1, Y1, c1, s1, rfl, hP, hc, hs⟩, hcx⟩, hcw, hcm⟩
  have hcw : cn_H R Y R1 Y1 := hcw
  have hcm : mn_H I I1 R1 Y1 := hcm
  have hS1 := lw_S hJ.1.2.1 hJ.1.1 hP
  have hI1 := lw_IV hJ.1.2.2.1 hP
  have hN1 := hP.1.2.2.1.1
  show yi_L zi_Ms 60 sl zi_mlaw (1244, [(4, .inl i), (3, .inr (.inr (some 109))), (2, .inr (.inr (some 82))), (1, .inr (.inr (some 10))), (0, .inr (.inr (some 8)))], [.inl (z1)], (I1, L1, R1, Y1), nc + c1, ns + s1) _
  refine yi_L_run 5 (1250, [(4, .inl i), (3, .inr (.inr (some 109))), (2, .inr (.inr (some 82))), (1, .inr (.inr (some 10))), (0, .inr (.inr (some 8)))], [.inl (1), .inl (i), .inr (.inr (some 8)), .inr (.inr (some 82))], (I1, L1, R1, Y1), nc + c1, ns + s1) (fun _ => rfl) ?_
  refine yi_L_iadd rfl (i + 1) (yi_wn (by omega) (by omega)) ?_
  refine yi_L_ald rfl (by omega) (by omega) ?_
  refine yi_L_run 3 (1256, [(4, .inl i), (3, .inr (.inr (some 109))), (2, .inr (.inr (some 82))), (1, .inr (.inr (some 10))), (0, .inr (.inr (some 8)))], [.inl (2), .inl (i), .inr (.inr (some 8)), .inl (sl.getD (i + 1).toNat 0), .inr (.inr (some 82))], (I1, L1, R1, Y1), nc + c1, ns + s1) (fun _ => rfl) ?_
  refine yi_L_iadd rfl (i + 2) (yi_wn (by omega) (by omega)) ?_
  refine yi_L_ald rfl (by omega) (by omega) ?_
  refine yi_L_run 3 (1262, [(4, .inl i), (3, .inr (.inr (some 109))), (2, .inr (.inr (some 82))), (1, .inr (.inr (some 10))), (0, .inr (.inr (some 8)))], [.inl (3), .inl (i), .inr (.inr (some 8)), .inl (sl.getD (i + 2).toNat 0), .inl (sl.getD (i + 1).toNat 0), .inr (.inr (some 82))], (I1, L1, R1, Y1), nc + c1, ns + s1) (fun _ => rfl) ?_
  refine yi_L_iadd rfl (i + 3) (yi_wn (by omega) (by omega)) ?_
  refine yi_L_ald rfl (by omega) (by omega) ?_
  refine yi_L_callv rfl rfl (ym_rcv hS1) rfl (show yi_E zi_Ms 60 24 [.inr (.inr (some 82)), .inl (sl.getD (i + 1).toNat 0), .inl (sl.getD (i + 2).toNat 0), .inl (sl.getD (i + 3).toNat 0)] (I1, L1, R1, Y1) _ from yi_E_P (m_fair _ _ _ hS1 hI1) (mn_P hcm.1 (by decide +kernel) (mn_vn (mn_vp (by omega) (by omega)) (mn_vn (mn_vi _) (mn_vn (mn_vi _) (mn_vn (mn_vi _) mn_v0)))))) ?_
  rintro _ ⟨⟨z2, I2, L2, rfl, mf, iv, e2⟩, hcm2⟩
  show yi_L zi_Ms 60 sl zi_mlaw (1267, [(4, .inl i), (3, .inr (.inr (some 109))), (2, .inr (.inr (some 82))), (1, .inr (.inr (some 10))), (0, .inr (.inr (some 8)))], [.inl (z2)], (I2, L2, R1, Y1), nc + c1 + 0, ns + s1 + 0) _
  refine yi_L_run 2 (1398, [(4, .inl i), (3, .inr (.inr (some 109))), (2, .inr (.inr (some 82))), (1, .inr (.inr (some 10))), (0, .inr (.inr (some 8)))], [], (I2, L2, R1, Y1), nc + c1 + 0, ns + s1 + 0) (fun _ => rfl) ?_
  exact yi_L_end ⟨_, _, _, _, _, _, rfl, ⟨lw_K_s hJ hP hc hs hcx mf iv e2, lw_W_s hW hcw hcm hcm2⟩⟩
theorem lw_o30 {sl : List Int} {n : Nat} {i : Int} (hi : 0 ≤ i) (h7 : i + 7 ≤ sl.length) (hL : sl.length ≤ 3584) {I L : cl_I} {R : cl_Rr} {Y : cl_Y} {nc ns : Nat} (hM : lw_M n I L R Y nc ns) : yi_L zi_Ms 60 sl zi_mlaw (1271, [(4, .inl i), (3, .inr (.inr (some 109))), (2, .inr (.inr (some 82))), (1, .inr (.inr (some 10))), (0, .inr (.inr (some 8)))], [], (I, L, R, Y), nc, ns) (lw_Q n i) := by
  obtain ⟨hJ, hW⟩ := hM
  have hN := hJ.1.1.2.2.1.1
  refine yi_L_run 4 (1276, [(4, .inl i), (3, .inr (.inr (some 109))), (2, .inr (.inr (some 82))), (1, .inr (.inr (some 10))), (0, .inr (.inr (some 8)))], [.inl (1), .inl (i), .inr (.inr (some 8)), .inr (.inr (some 10))], (I, L, R, Y), nc, ns) (fun _ => rfl) ?_
  refine yi_L_iadd rfl (i + 1) (yi_wn (by omega) (by omega)) ?_
  refine yi_L_ald rfl (by omega) (by omega) ?_
  refine yi_L_run 3 (1282, [(4, .inl i), (3, .inr (.inr (some 109))), (2, .inr (.inr (some 82))), (1, .inr (.inr (some 10))), (0, .inr (.inr (some 8)))], [.inl (2), .inl (i), .inr (.inr (some 8)), .inl (sl.getD (i + 1).toNat 0), .inr (.inr (some 10))], (I, L, R, Y), nc, ns) (fun _ => rfl) ?_
  refine yi_L_iadd rfl (i + 2) (yi_wn (by omega) (by omega)) ?_
  refine yi_L_ald rfl (by omega) (by omega) ?_
  refine yi_L_run 3 (1288, [(4, .inl i), (3, .inr (.inr (some 109))), (2, .inr (.inr (some 82))), (1, .inr (.inr (some 10))), (0, .inr (.inr (some 8)))], [.inl (3), .inl (i), .inr (.inr (some 8)), .inl (sl.getD (i + 2).toNat 0), .inl (sl.getD (i + 1).toNat 0), .inr (.inr (some 10))], (I, L, R, Y), nc, ns) (fun _ => rfl) ?_
  refine yi_L_iadd rfl (i + 3) (yi_wn (by omega) (by omega)) ?_
  refine yi_L_ald rfl (by omega) (by omega) ?_
  refine yi_L_callv rfl rfl (cl_rcv (cl_10 hJ.1.1) rfl) rfl (show yi_E zi_Ms 60 190 [.inr (.inr (some 10)), .inl (sl.getD (i + 1).toNat 0), .inl (sl.getD (i + 2).toNat 0), .inl (sl.getD (i + 3).toNat 0)] (I, L, R, Y) _ from yi_E_P (yi_E_P (x_year _ _ _ _ hJ.1.1) (cx_P hJ.2.1 rfl (cx_lc cx_v10 (cx_lc (cx_v _) (cx_lc (cx_v _) (cx_lc (cx_v _) cx_l0)))))) (yi_P_a (cn_P hW.1.1 (by decide +kernel) (cn_vn (cn_vp (by omega) (by omega)) (cn_vn (cn_vi _) (cn_vn (cn_vi _) (cn_vn (cn_vi _) cn_v0))))) (mn_P hW.2.1 (by decide +kernel) (mn_vn (mn_vp (by omega) (by omega)) (mn_vn (mn_vi _) (mn_vn (mn_vi _) (mn_vn (mn_vi _) mn_v0))))))) ?_
  rintro _ ⟨⟨⟨z1, I1, L1, R1, Y1, c1, s1, rfl, hP, hc, hs⟩, hcx⟩, hcw, hcm⟩
  have hcw : cn_H R Y R1 Y1 := hcw
  have hcm : mn_H I I1 R1 Y1 := hcm
  have hS1 := lw_S hJ.1.2.1 hJ.1.1 hP
  have hI1 := lw_IV hJ.1.2.2.1 hP
  have hN1 := hP.1.2.2.1.1
  show yi_L zi_Ms 60 sl zi_mlaw (1293, [(4, .inl i), (3, .inr (.inr (some 109))), (2, .inr (.inr (some 82))), (1, .inr (.inr (some 10))), (0, .inr (.inr (some 8)))], [.inl (z1)], (I1, L1, R1, Y1), nc + c1, ns + s1) _
  refine yi_L_run 5 (1299, [(4, .inl i), (3, .inr (.inr (some 109))), (2, .inr (.inr (some 82))), (1, .inr (.inr (some 10))), (0, .inr (.inr (some 8)))], [.inl (1), .inl (i), .inr (.inr (some 8)), .inr (.inr (some 82))], (I1, L1, R1, Y1), nc + c1, ns + s1) (fun _ => rfl) ?_
  refine yi_L_iadd rfl (i + 1) (yi_wn (by omega) (by omega)) ?_
  refine yi_L_ald rfl (by omega) (by omega) ?_
  refine yi_L_run 3 (1305, [(4, .inl i), (3, .inr (.inr (some 109))), (2, .inr (.inr (some 82))), (1, .inr (.inr (some 10))), (0, .inr (.inr (some 8)))], [.inl (2), .inl (i), .inr (.inr (some 8)), .inl (sl.getD (i + 1).toNat 0), .inr (.inr (some 82))], (I1, L1, R1, Y1), nc + c1, ns + s1) (fun _ => rfl) ?_
  refine yi_L_iadd rfl (i + 2) (yi_wn (by omega) (by omega)) ?_
  refine yi_L_ald rfl (by omega) (by omega) ?_
  refine yi_L_run 3 (1311, [(4, .inl i), (3, .inr (.inr (some 109))), (2, .inr (.inr (some 82))), (1, .inr (.inr (some 10))), (0, .inr (.inr (some 8)))], [.inl (3), .inl (i), .inr (.inr (some 8)), .inl (sl.getD (i + 2).toNat 0), .inl (sl.getD (i + 1).toNat 0), .inr (.inr (some 82))], (I1, L1, R1, Y1), nc + c1, ns + s1) (fun _ => rfl) ?_
  refine yi_L_iadd rfl (i + 3) (yi_wn (by omega) (by omega)) ?_
  refine yi_L_ald rfl (by omega) (by omega) ?_
  refine yi_L_callv rfl rfl (ym_rcv hS1) rfl (show yi_E zi_Ms 60 137 [.inr (.inr (some 82)), .inl (sl.getD (i + 1).toNat 0), .inl (sl.getD (i + 2).toNat 0), .inl (sl.getD (i + 3).toNat 0)] (I1, L1, R1, Y1) _ from yi_E_P (m_year _ _ _ hS1 hI1) (mn_P hcm.1 (by decide +kernel) (mn_vn (mn_vp (by omega) (by omega)) (mn_vn (mn_vi _) (mn_vn (mn_vi _) (mn_vn (mn_vi _) mn_v0)))))) ?_
  rintro _ ⟨⟨z2, I2, L2, rfl, mf, iv, e2⟩, hcm2⟩
  show yi_L zi_Ms 60 sl zi_mlaw (1316, [(4, .inl i), (3, .inr (.inr (some 109))), (2, .inr (.inr (some 82))), (1, .inr (.inr (some 10))), (0, .inr (.inr (some 8)))], [.inl (z2)], (I2, L2, R1, Y1), nc + c1 + 0, ns + s1 + 0) _
  refine yi_L_run 2 (1398, [(4, .inl i), (3, .inr (.inr (some 109))), (2, .inr (.inr (some 82))), (1, .inr (.inr (some 10))), (0, .inr (.inr (some 8)))], [], (I2, L2, R1, Y1), nc + c1 + 0, ns + s1 + 0) (fun _ => rfl) ?_
  exact yi_L_end ⟨_, _, _, _, _, _, rfl, ⟨lw_K_s hJ hP hc hs hcx mf iv e2, lw_W_s hW hcw hcm hcm2⟩⟩
theorem lw_o31 {sl : List Int} {n : Nat} {i : Int} (hi : 0 ≤ i) (h7 : i + 7 ≤ sl.length) (hL : sl.length ≤ 3584) {I L : cl_I} {R : cl_Rr} {Y : cl_Y} {nc ns : Nat} (hM : lw_M n I L R Y nc ns) : yi_L zi_Ms 60 sl zi_mlaw (1320, [(4, .inl i), (3, .inr (.inr (some 109))), (2, .inr (.inr (some 82))), (1, .inr (.inr (some 10))), (0, .inr (.inr (some 8)))], [], (I, L, R, Y), nc, ns) (lw_Q n i) := by
  obtain ⟨hJ, hW⟩ := hM
  have hN := hJ.1.1.2.2.1.1
  refine yi_L_run 4 (1325, [(4, .inl i), (3, .inr (.inr (some 109))), (2, .inr (.inr (some 82))), (1, .inr (.inr (some 10))), (0, .inr (.inr (some 8)))], [.inl (1), .inl (i), .inr (.inr (some 8)), .inr (.inr (some 10))], (I, L, R, Y), nc, ns) (fun _ => rfl) ?_
  refine yi_L_iadd rfl (i + 1) (yi_wn (by omega) (by omega)) ?_
  refine yi_L_ald rfl (by omega) (by omega) ?_
  refine yi_L_run 3 (1331, [(4, .inl i), (3, .inr (.inr (some 109))), (2, .inr (.inr (some 82))), (1, .inr (.inr (some 10))), (0, .inr (.inr (some 8)))], [.inl (2), .inl (i), .inr (.inr (some 8)), .inl (sl.getD (i + 1).toNat 0), .inr (.inr (some 10))], (I, L, R, Y), nc, ns) (fun _ => rfl) ?_
  refine yi_L_iadd rfl (i + 2) (yi_wn (by omega) (by omega)) ?_
  refine yi_L_ald rfl (by omega) (by omega) ?_
  by_cases hb : (sl.getD (i + 2).toNat 0) = 0
  · refine yi_L_if1 true rfl (yi_eq_t hb) ?_
    refine yi_L_run 1 (1341, [(4, .inl i), (3, .inr (.inr (some 109))), (2, .inr (.inr (some 82))), (1, .inr (.inr (some 10))), (0, .inr (.inr (some 8)))], [.inl (0), .inl (sl.getD (i + 1).toNat 0), .inr (.inr (some 10))], (I, L, R, Y), nc, ns) (fun _ => rfl) ?_
    refine yi_L_callv rfl rfl (cl_rcv (cl_10 hJ.1.1) rfl) rfl (show yi_E zi_Ms 60 165 [.inr (.inr (some 10)), .inl (sl.getD (i + 1).toNat 0), .inl (0)] (I, L, R, Y) _ from yi_E_P (yi_E_P (x_mark _ _ _ _ hJ.1.1) (cx_P hJ.2.1 rfl (cx_lc cx_v10 (cx_lc (cx_v _) (cx_lc (cx_v _) cx_l0))))) (yi_P_a (p_markM hW.1) (mn_P hW.2.1 (by decide +kernel) (mn_vn (mn_vp (by omega) (by omega)) (mn_vn (mn_vi _) (mn_vn (mn_vi _) mn_v0)))))) ?_
    rintro _ ⟨⟨⟨z1, I1, L1, R1, Y1, c1, s1, rfl, hP, hc, hs⟩, hcx⟩, ⟨zm, Im, Lm, Rm, Ym, nm1, mm1, em, hmC, hmk⟩, hcm⟩
    cases em
    have hcm : mn_H I I1 R1 Y1 := hcm
    have hS1 := lw_S hJ.1.2.1 hJ.1.1 hP
    have hI1 := lw_IV hJ.1.2.2.1 hP
    have hN1 := hP.1.2.2.1.1
    show yi_L zi_Ms 60 sl zi_mlaw (1344, [(4, .inl i), (3, .inr (.inr (some 109))), (2, .inr (.inr (some 82))), (1, .inr (.inr (some 10))), (0, .inr (.inr (some 8)))], [.inl (z1)], (I1, L1, R1, Y1), nc + c1, ns + s1) _
    refine yi_L_run 4 (1349, [(4, .inl i), (3, .inr (.inr (some 109))), (2, .inr (.inr (some 82))), (1, .inr (.inr (some 10))), (0, .inr (.inr (some 8)))], [.inl (1), .inl (i), .inr (.inr (some 8)), .inr (.inr (some 82)), .inl (z1)], (I1, L1, R1, Y1), nc + c1, ns + s1) (fun _ => rfl) ?_
    refine yi_L_iadd rfl (i + 1) (yi_wn (by omega) (by omega)) ?_
    refine yi_L_ald rfl (by omega) (by omega) ?_
    refine yi_L_run 3 (1355, [(4, .inl i), (3, .inr (.inr (some 109))), (2, .inr (.inr (some 82))), (1, .inr (.inr (some 10))), (0, .inr (.inr (some 8)))], [.inl (2), .inl (i), .inr (.inr (some 8)), .inl (sl.getD (i + 1).toNat 0), .inr (.inr (some 82)), .inl (z1)], (I1, L1, R1, Y1), nc + c1, ns + s1) (fun _ => rfl) ?_
    refine yi_L_iadd rfl (i + 2) (yi_wn (by omega) (by omega)) ?_
    refine yi_L_ald rfl (by omega) (by omega) ?_
    refine yi_L_if1 true rfl (yi_eq_t hb) ?_
    refine yi_L_run 1 (1365, [(4, .inl i), (3, .inr (.inr (some 109))), (2, .inr (.inr (some 82))), (1, .inr (.inr (some 10))), (0, .inr (.inr (some 8)))], [.inl (0), .inl (sl.getD (i + 1).toNat 0), .inr (.inr (some 82)), .inl (z1)], (I1, L1, R1, Y1), nc + c1, ns + s1) (fun _ => rfl) ?_
    refine yi_L_callv rfl rfl (ym_rcv hS1) rfl (show yi_E zi_Ms 60 82 [.inr (.inr (some 82)), .inl (sl.getD (i + 1).toNat 0), .inl (0)] (I1, L1, R1, Y1) _ from m_markM (by omega) hS1 hI1) ?_
    rintro _ ⟨z2, I2, L2, rfl, mf, iv, e2, hqm⟩
    have hfm := lw_W_m hW hmC hmk hcm hqm
    have hEq := hfm.1
    show yi_L zi_Ms 60 sl zi_mlaw (1368, [(4, .inl i), (3, .inr (.inr (some 109))), (2, .inr (.inr (some 82))), (1, .inr (.inr (some 10))), (0, .inr (.inr (some 8)))], [.inl (z2), .inl (z1)], (I2, L2, R1, Y1), nc + c1 + 0, ns + s1 + 0) _
    refine yi_L_if2 true rfl (yi_eq_t hEq) ?_
    exact yi_L_end ⟨_, _, _, _, _, _, rfl, ⟨lw_K_s hJ hP hc hs hcx mf iv e2, hfm.2⟩⟩
  · refine yi_L_if1 false rfl (yi_eq_f hb) ?_
    refine yi_L_run 2 (1341, [(4, .inl i), (3, .inr (.inr (some 109))), (2, .inr (.inr (some 82))), (1, .inr (.inr (some 10))), (0, .inr (.inr (some 8)))], [.inl (1), .inl (sl.getD (i + 1).toNat 0), .inr (.inr (some 10))], (I, L, R, Y), nc, ns) (fun _ => rfl) ?_
    refine yi_L_callv rfl rfl (cl_rcv (cl_10 hJ.1.1) rfl) rfl (show yi_E zi_Ms 60 165 [.inr (.inr (some 10)), .inl (sl.getD (i + 1).toNat 0), .inl (1)] (I, L, R, Y) _ from yi_E_P (yi_E_P (x_mark _ _ _ _ hJ.1.1) (cx_P hJ.2.1 rfl (cx_lc cx_v10 (cx_lc (cx_v _) (cx_lc (cx_v _) cx_l0))))) (yi_P_a (p_markM hW.1) (mn_P hW.2.1 (by decide +kernel) (mn_vn (mn_vp (by omega) (by omega)) (mn_vn (mn_vi _) (mn_vn (mn_vi _) mn_v0)))))) ?_
    rintro _ ⟨⟨⟨z1, I1, L1, R1, Y1, c1, s1, rfl, hP, hc, hs⟩, hcx⟩, ⟨zm, Im, Lm, Rm, Ym, nm1, mm1, em, hmC, hmk⟩, hcm⟩
    cases em
    have hcm : mn_H I I1 R1 Y1 := hcm
    have hS1 := lw_S hJ.1.2.1 hJ.1.1 hP
    have hI1 := lw_IV hJ.1.2.2.1 hP
    have hN1 := hP.1.2.2.1.1
    show yi_L zi_Ms 60 sl zi_mlaw (1344, [(4, .inl i), (3, .inr (.inr (some 109))), (2, .inr (.inr (some 82))), (1, .inr (.inr (some 10))), (0, .inr (.inr (some 8)))], [.inl (z1)], (I1, L1, R1, Y1), nc + c1, ns + s1) _
    refine yi_L_run 4 (1349, [(4, .inl i), (3, .inr (.inr (some 109))), (2, .inr (.inr (some 82))), (1, .inr (.inr (some 10))), (0, .inr (.inr (some 8)))], [.inl (1), .inl (i), .inr (.inr (some 8)), .inr (.inr (some 82)), .inl (z1)], (I1, L1, R1, Y1), nc + c1, ns + s1) (fun _ => rfl) ?_
    refine yi_L_iadd rfl (i + 1) (yi_wn (by omega) (by omega)) ?_
    refine yi_L_ald rfl (by omega) (by omega) ?_
    refine yi_L_run 3 (1355, [(4, .inl i), (3, .inr (.inr (some 109))), (2, .inr (.inr (some 82))), (1, .inr (.inr (some 10))), (0, .inr (.inr (some 8)))], [.inl (2), .inl (i), .inr (.inr (some 8)), .inl (sl.getD (i + 1).toNat 0), .inr (.inr (some 82)), .inl (z1)], (I1, L1, R1, Y1), nc + c1, ns + s1) (fun _ => rfl) ?_
    refine yi_L_iadd rfl (i + 2) (yi_wn (by omega) (by omega)) ?_
    refine yi_L_ald rfl (by omega) (by omega) ?_
    refine yi_L_if1 false rfl (yi_eq_f hb) ?_
    refine yi_L_run 2 (1365, [(4, .inl i), (3, .inr (.inr (some 109))), (2, .inr (.inr (some 82))), (1, .inr (.inr (some 10))), (0, .inr (.inr (some 8)))], [.inl (1), .inl (sl.getD (i + 1).toNat 0), .inr (.inr (some 82)), .inl (z1)], (I1, L1, R1, Y1), nc + c1, ns + s1) (fun _ => rfl) ?_
    refine yi_L_callv rfl rfl (ym_rcv hS1) rfl (show yi_E zi_Ms 60 82 [.inr (.inr (some 82)), .inl (sl.getD (i + 1).toNat 0), .inl (1)] (I1, L1, R1, Y1) _ from m_markM (by omega) hS1 hI1) ?_
    rintro _ ⟨z2, I2, L2, rfl, mf, iv, e2, hqm⟩
    have hfm := lw_W_m hW hmC hmk hcm hqm
    have hEq := hfm.1
    show yi_L zi_Ms 60 sl zi_mlaw (1368, [(4, .inl i), (3, .inr (.inr (some 109))), (2, .inr (.inr (some 82))), (1, .inr (.inr (some 10))), (0, .inr (.inr (some 8)))], [.inl (z2), .inl (z1)], (I2, L2, R1, Y1), nc + c1 + 0, ns + s1 + 0) _
    refine yi_L_if2 true rfl (yi_eq_t hEq) ?_
    exact yi_L_end ⟨_, _, _, _, _, _, rfl, ⟨lw_K_s hJ hP hc hs hcx mf iv e2, hfm.2⟩⟩
theorem lw_o32 {sl : List Int} {n : Nat} {i : Int} (hi : 0 ≤ i) (h7 : i + 7 ≤ sl.length) (hL : sl.length ≤ 3584) {I L : cl_I} {R : cl_Rr} {Y : cl_Y} {nc ns : Nat} (hM : lw_M n I L R Y nc ns) : yi_L zi_Ms 60 sl zi_mlaw (1373, [(4, .inl i), (3, .inr (.inr (some 109))), (2, .inr (.inr (some 82))), (1, .inr (.inr (some 10))), (0, .inr (.inr (some 8)))], [], (I, L, R, Y), nc, ns) (lw_Q n i) := by
  obtain ⟨hJ, hW⟩ := hM
  have hN := hJ.1.1.2.2.1.1
  refine yi_L_run 4 (1378, [(4, .inl i), (3, .inr (.inr (some 109))), (2, .inr (.inr (some 82))), (1, .inr (.inr (some 10))), (0, .inr (.inr (some 8)))], [.inl (1), .inl (i), .inr (.inr (some 8)), .inr (.inr (some 10))], (I, L, R, Y), nc, ns) (fun _ => rfl) ?_
  refine yi_L_iadd rfl (i + 1) (yi_wn (by omega) (by omega)) ?_
  refine yi_L_ald rfl (by omega) (by omega) ?_
  refine yi_L_callv rfl rfl (cl_rcv (cl_10 hJ.1.1) rfl) rfl (show yi_E zi_Ms 60 146 [.inr (.inr (some 10)), .inl (sl.getD (i + 1).toNat 0)] (I, L, R, Y) _ from yi_E_P (yi_E_P (x_count _ _ _ _ hJ.1.1) (cx_P hJ.2.1 rfl (cx_lc cx_v10 (cx_lc (cx_v _) cx_l0)))) (yi_P_a (cn_P hW.1.1 (by decide +kernel) (cn_vn (cn_vp (by omega) (by omega)) (cn_vn (cn_vi _) cn_v0))) (mn_P hW.2.1 (by decide +kernel) (mn_vn (mn_vp (by omega) (by omega)) (mn_vn (mn_vi _) mn_v0))))) ?_
  rintro _ ⟨⟨⟨z1, I1, L1, R1, Y1, c1, s1, rfl, hP, hc, hs⟩, hcx⟩, hcw, hcm⟩
  have hcw : cn_H R Y R1 Y1 := hcw
  have hcm : mn_H I I1 R1 Y1 := hcm
  have hS1 := lw_S hJ.1.2.1 hJ.1.1 hP
  have hI1 := lw_IV hJ.1.2.2.1 hP
  have hN1 := hP.1.2.2.1.1
  show yi_L zi_Ms 60 sl zi_mlaw (1383, [(4, .inl i), (3, .inr (.inr (some 109))), (2, .inr (.inr (some 82))), (1, .inr (.inr (some 10))), (0, .inr (.inr (some 8)))], [.inl (z1)], (I1, L1, R1, Y1), nc + c1, ns + s1) _
  refine yi_L_run 5 (1389, [(4, .inl i), (3, .inr (.inr (some 109))), (2, .inr (.inr (some 82))), (1, .inr (.inr (some 10))), (0, .inr (.inr (some 8)))], [.inl (1), .inl (i), .inr (.inr (some 8)), .inr (.inr (some 82))], (I1, L1, R1, Y1), nc + c1, ns + s1) (fun _ => rfl) ?_
  refine yi_L_iadd rfl (i + 1) (yi_wn (by omega) (by omega)) ?_
  refine yi_L_ald rfl (by omega) (by omega) ?_
  refine yi_L_callv rfl rfl (ym_rcv hS1) rfl (show yi_E zi_Ms 60 15 [.inr (.inr (some 82)), .inl (sl.getD (i + 1).toNat 0)] (I1, L1, R1, Y1) _ from yi_E_P (m_count _ _ _ hS1 hI1) (mn_P hcm.1 (by decide +kernel) (mn_vn (mn_vp (by omega) (by omega)) (mn_vn (mn_vi _) mn_v0)))) ?_
  rintro _ ⟨⟨z2, I2, L2, rfl, mf, iv, e2⟩, hcm2⟩
  show yi_L zi_Ms 60 sl zi_mlaw (1394, [(4, .inl i), (3, .inr (.inr (some 109))), (2, .inr (.inr (some 82))), (1, .inr (.inr (some 10))), (0, .inr (.inr (some 8)))], [.inl (z2)], (I2, L2, R1, Y1), nc + c1 + 0, ns + s1 + 0) _
  refine yi_L_run 2 (1398, [(4, .inl i), (3, .inr (.inr (some 109))), (2, .inr (.inr (some 82))), (1, .inr (.inr (some 10))), (0, .inr (.inr (some 8)))], [], (I2, L2, R1, Y1), nc + c1 + 0, ns + s1 + 0) (fun _ => rfl) ?_
  exact yi_L_end ⟨_, _, _, _, _, _, rfl, ⟨lw_K_s hJ hP hc hs hcx mf iv e2, lw_W_s hW hcw hcm hcm2⟩⟩
