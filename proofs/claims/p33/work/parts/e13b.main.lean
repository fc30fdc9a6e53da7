/-! The law's loop at the machine. -/
section ZF
variable {p : Program} {l : Launch} {e : Env} {s : State} {m : MethodId} {below : List Frame} {meth : Method} {c : Code} {D : va_G} {dA : Nat → ClassId} {adK adV : Nat → Nat} {b : Nat}
theorem lw_bdN {n : Nat} {i : Int} {g : yi_F} (h : lw_N n i g) (hn : n ≤ 512) : g.2.2.2.2.1 ≤ room_1.cells ∧ g.2.2.2.2.2 ≤ room_1.slots := by
  obtain ⟨I, L, R, Y, nc, ns, rfl, hJ⟩ := h
  have h1 := hJ.1.1.2.2.2.2.2.1.1
  have h2 := hJ.1.1.2.2.2.2.2.2.1
  exact ⟨show nc ≤ 601024 by omega, show ns ≤ 7293033 by omega⟩
theorem lw_m2 {sl : List Int} {zsl : List zi_V} (hl : zi_F2 (fun z v => yi_vr (.inl z) v) sl zsl) (hL : sl.length ≤ 3584) (C : zi_Cx p room_1 s m #[Value.ref b] meth c s.heap.size D dA adK adV b zi_mlaw 60 zsl) {n : Nat} {i : Int} (hi : 0 ≤ i) (h7 : i + 7 ≤ sl.length) (hn : n + 1 ≤ 512) {kk : Int} {I L I1 L1 : cl_I} {R R1 : cl_Rr} {Y Y1 : cl_Y} {nc ns c1 s1 : Nat} (hJ : lw_M n I L R Y nc ns) (hP : cl_P [] I L R Y I1 L1 R1 Y1) (hcx : lw_H I L R Y I1 L1 R1 Y1) (hc1 : c1 ≤ 700) (hs1 : s1 ≤ 13896) {f : zi_F} (hf : yi_fr (1019, [(4, .inl i), (3, .inr (.inr (some 109))), (2, .inr (.inr (some 82))), (1, .inr (.inr (some 10))), (0, .inr (.inr (some 8)))], [.inl kk], (I1, L1, R1, Y1), nc + c1, ns + s1) f) {ws : va_W} {H : Heap} {locs : List Loc} {ls : Array Slot} {sc : List Value} (hS : zi_St s.heap.size D dA adK adV b 7 s f ws H locs ls sc) (ih : ∀ (g : yi_F) (zg : zi_F), lw_N (n + 1) (i + 7) g → yi_fr g zg → ∀ (ws : va_W) (H : Heap) (locs : List Loc) (ls : Array Slot) (sc : List Value), zi_St s.heap.size D dA adK adV b 7 s zg ws H locs ls sc → zi_W p l e room_1 s m #[Value.ref b] below meth c (lw_Z below #[Value.ref b] s) zg.2.2.2.2.1 zg.2.2.2.2.2 zg.1 H locs ls sc) : zi_W p l e room_1 s m #[Value.ref b] below meth c (lw_Z below #[Value.ref b] s) f.2.2.2.2.1 f.2.2.2.2.2 f.1 H locs ls sc := by
  have j6 := hJ.1.1.2.2.2.2.2.1.1
  have j7 := hJ.1.1.2.2.2.2.2.2.1
  refine zi_yiL C zi_law_ok hl (by omega) hf (lw_f2 (n := n) (kk := kk) hi h7 hL (lw_S hJ.1.1.2.1 hJ.1.1.1 hP) (lw_IV hJ.1.1.2.2.1 hP) hcx.2.2.1 hP.1.2.2.1.1) hS ?_ ?_
  · rintro _ ⟨z2, I2, L2, rfl, hm2, mf, iv, e2⟩
    exact ⟨show nc + c1 + 0 ≤ 601024 by omega, show ns + s1 + 0 ≤ 7293033 by omega⟩
  · rintro _ ⟨pc, zal, zst, A, znc, zns⟩ ⟨z2, I2, L2, rfl, hm2, mf, iv, e2⟩ ⟨f1, f2, f3, f4, f5, f6⟩ ws1 H1 locs1 ls1 sc1 hS1
    obtain ⟨v6, al6, e6, -, k6⟩ := zi_F2_cons f2
    obtain ⟨v5, al5, e5, -, k5⟩ := zi_F2_cons k6
    have e6 : zal = v6 :: al6 := e6
    subst e6 e5
    have hS2 := zi_St_drop (zi_St_drop hS1)
    have hJ2 := lw_M_s hJ hP hc1 hs1 hcx mf iv e2 hm2
    refine zi_yiL C zi_law_ok hl (by omega) (Y := (1398, [(4, .inl i), (3, .inr (.inr (some 109))), (2, .inr (.inr (some 82))), (1, .inr (.inr (some 10))), (0, .inr (.inr (some 8)))], [], (I2, L2, R1, Y1), nc + c1 + 0, ns + s1 + 0)) (f := (pc, al5, zst, A, znc, zns)) ⟨f1, k5, f3, f4, f5, f6⟩ (lw_nx (n := n) hi (by omega) ⟨I2, L2, R1, Y1, nc + c1 + 0, ns + s1 + 0, rfl, hJ2⟩) hS2 (fun g hg => lw_bdN hg hn) ?_
    intro g zg hg hfr ws2 H2 locs2 ls2 sc2 hS3
    exact ih g zg hg hfr ws2 H2 locs2 ls2 sc2 hS3
theorem lw_m1 (hst : l.stackTraces = false) (hY : zi_Y s.heap.size s) {sl : List Int} {zsl : List zi_V} (hl : zi_F2 (fun z v => yi_vr (.inl z) v) sl zsl) (hL : sl.length ≤ 3584) (C : zi_Cx p room_1 s m #[Value.ref b] meth c s.heap.size D dA adK adV b zi_mlaw 60 zsl) {n : Nat} {i : Int} (hi : 0 ≤ i) (h7 : i + 7 ≤ sl.length) (hn : n + 1 ≤ 512) {I L : cl_I} {R : cl_Rr} {Y : cl_Y} {nc ns : Nat} (hJ : lw_M n I L R Y nc ns) {f : zi_F} (hf : yi_fr (996, [(4, .inl i), (3, .inr (.inr (some 109))), (2, .inr (.inr (some 82))), (1, .inr (.inr (some 10))), (0, .inr (.inr (some 8)))], [], (I, L, R, Y), nc, ns) f) {ws : va_W} {H : Heap} {locs : List Loc} {ls : Array Slot} {sc : List Value} (hS : zi_St s.heap.size D dA adK adV b 7 s f ws H locs ls sc) (ih : ∀ (g : yi_F) (zg : zi_F), lw_N (n + 1) (i + 7) g → yi_fr g zg → ∀ (ws : va_W) (H : Heap) (locs : List Loc) (ls : Array Slot) (sc : List Value), zi_St s.heap.size D dA adK adV b 7 s zg ws H locs ls sc → zi_W p l e room_1 s m #[Value.ref b] below meth c (lw_Z below #[Value.ref b] s) zg.2.2.2.2.1 zg.2.2.2.2.2 zg.1 H locs ls sc) : zi_W p l e room_1 s m #[Value.ref b] below meth c (lw_Z below #[Value.ref b] s) f.2.2.2.2.1 f.2.2.2.2.2 f.1 H locs ls sc := by
  have j6 := hJ.1.1.2.2.2.2.2.1.1
  have j7 := hJ.1.1.2.2.2.2.2.2.1
  have hC := hJ.1.1.1
  have ho := hJ.1.1.2.2.2.2.1
  refine zi_yiL C zi_law_ok hl (by omega) hf (lw_f1 hi h7 hL) hS ?_ ?_
  · rintro _ rfl
    exact ⟨show nc ≤ 601024 by omega, show ns ≤ 7293033 by omega⟩
  rintro _ ⟨pc, zal, zst, A, znc, zns⟩ rfl ⟨f1, f2, f3, f4, f5, f6⟩ ws1 H1 locs1 ls1 sc1 hS1
  generalize sl.getD (i + 3).toNat 0 = x3 at f3
  generalize sl.getD (i + 2).toNat 0 = x2 at f3
  generalize sl.getD (i + 1).toNat 0 = x1 at f3
  obtain ⟨wo, so, eo, vo, ko⟩ := zi_F2_cons f3
  obtain ⟨w3, s3, e3, ⟨y3, v3, r3⟩, k3⟩ := zi_F2_cons ko
  obtain ⟨w2, s2, e2, ⟨y2, v2, r2⟩, k2⟩ := zi_F2_cons k3
  obtain ⟨w1, s1, e1, ⟨y1, v1, r1⟩, k1⟩ := zi_F2_cons k2
  obtain ⟨w0, s0, e0, v0, k0⟩ := zi_F2_cons k1
  have en := zi_F2_nil k0
  have eo : zst = wo :: so := eo
  have vo : wo = .inl (.ref 109) := vo
  have v0 : w0 = .inl (.ref 10) := v0
  subst eo e3 e2 e1 e0 en vo v0 v3 v2 v1 r3 r2 r1
  have f1 : (1016 : Nat) = pc := f1
  have f4 : yi_hr (I, L, R, Y) A := f4
  have f5 : nc = znc := f5
  have f6 : ns = zns := f6
  have f2 : zi_F2 yi_lr [(4, .inl i), (3, .inr (.inr (some 109))), (2, .inr (.inr (some 82))), (1, .inr (.inr (some 10))), (0, .inr (.inr (some 8)))] zal := f2
  subst f1 f5 f6
  have hent : zi_F2 yi_lr [(0, .inr (.inr (some 10))), (1, .inl y1.toInt), (2, .inl y2.toInt), (3, .inl y3.toInt)] (zi_ent 0 [.inl (.ref 10), .inl (.int y1), .inl (.int y2), .inl (.int y3)]) := ⟨⟨rfl, rfl⟩, ⟨rfl, ⟨y1, rfl, rfl⟩⟩, ⟨rfl, ⟨y2, rfl, rfl⟩⟩, ⟨rfl, ⟨y3, rfl, rfl⟩⟩, trivial⟩
  have hent5 : zi_F2 yi_lr [(0, .inr (.inr (some 10))), (1, .inl y1.toInt), (2, .inl y2.toInt), (3, .inl y3.toInt), (4, .inr (.inr (some 109)))] (zi_ent 0 [.inl (.ref 10), .inl (.int y1), .inl (.int y2), .inl (.int y3), .inl (.ref 109)]) := ⟨⟨rfl, rfl⟩, ⟨rfl, ⟨y1, rfl, rfl⟩⟩, ⟨rfl, ⟨y2, rfl, rfl⟩⟩, ⟨rfl, ⟨y3, rfl, rfl⟩⟩, ⟨rfl, rfl⟩, trivial⟩
  have hf4 : yi_fr (0, [(0, .inr (.inr (some 10))), (1, .inl y1.toInt), (2, .inl y2.toInt), (3, .inl y3.toInt)], [], (I, L, R, Y), 0, 0) (0, zi_ent 0 [.inl (.ref 10), .inl (.int y1), .inl (.int y2), .inl (.int y3)], [], A, 0, 0) := ⟨rfl, hent, trivial, f4, rfl, rfl⟩
  have hf5 : yi_fr (0, [(0, .inr (.inr (some 10))), (1, .inl y1.toInt), (2, .inl y2.toInt), (3, .inl y3.toInt), (4, .inr (.inr (some 109)))], [], (I, L, R, Y), 0, 0) (0, zi_ent 0 [.inl (.ref 10), .inl (.int y1), .inl (.int y2), .inl (.int y3), .inl (.ref 109)], [], A, 0, 0) := ⟨rfl, hent5, trivial, f4, rfl, rfl⟩
  rcases k_firstG 60 (by omega) hC (x := y1.toInt) (y := y2.toInt) (w := y3.toInt) with h | h
  · obtain ⟨n0, k0, z, I1, L1, R1, Y1, mc, ms, hrun, hP, ⟨hmc, hms⟩, hcx⟩ := lw_fn hC ho (yi_G_D h (fun _ => lw_first hJ.1.2.1 hJ.2.1.1 hJ.2.2.1 (by have := hC.2.2.1.1; omega)))
    obtain ⟨⟨zv, A1, zmc, zms⟩, hz, g1, g2, g3, g4⟩ := yi_loop_ok (yi_ly_ok (Ms := [zi_mg]) (yi_ev_ok zi_Ms n0 60) n0) zi_mlf2 k0 (f := (0, zi_ent 0 [.inl (.ref 10), .inl (.int y1), .inl (.int y2), .inl (.int y3), .inl (.ref 109)], [], A, 0, 0)) hf5 hrun
    have g3 : mc = zmc := g3
    have g4 : ms = zms := g4
    subst g3 g4
    cases zv with
    | none => exact (show False from g1).elim
    | some zv =>
      obtain ⟨yr, rfl, hyr⟩ := (show yi_vr (.inl 0) zv from g1)
      have ho1 := lw_out hC ho hP.2.1
      have t109 : cl_T [] Y1 109 21 := ⟨by omega, by have := hP.1.2.2.1.1; omega, by omega, by simp, ho1.1⟩
      have hP2 := cl_P_uL (k := 0) (v := z) hP t109 (fun h => by omega)
      refine zi_o22 (v := .inl (.int yr)) (A' := A1) (mc := mc) (ms := ms) hY (fun ws vs hav hA => zi_lfret (r := (some (.inl (.int yr)), A1, mc, ms)) hz hav hA) C (show nc + mc ≤ 601024 by omega) (show ns + ms ≤ 7293033 by omega) hS1 (fun ws2 H2 locs2 ls2 sc2 hS2 => ?_)
      exact lw_m2 hl hL C hi h7 hn (kk := 0) hJ hP2 (lw_H_109 hcx) (c1 := mc) (s1 := ms) (by omega) (by omega) (f := (1019, zal, [.inl (.int yr)], A1, nc + mc, ns + ms)) ⟨rfl, f2, ⟨⟨yr, rfl, hyr⟩, trivial⟩, g2, rfl, rfl⟩ hS2 ih
  · obtain ⟨_, rfl, k1, n1, hr⟩ := h
    obtain ⟨⟨gp, zal2, zst2, A2, gc, gs⟩, hz, g1, g2, g3, g4, g5, g6⟩ := yi_runs_ok (yi_ev_ok zi_Ms n1 60) (sl := []) (zsl := []) trivial (Nat.zero_le _) zi_mg k1 (f := (0, zi_ent 0 [.inl (.ref 10), .inl (.int y1), .inl (.int y2), .inl (.int y3)], [], A, 0, 0)) hf4 (hr n1 (Nat.le_refl _))
    have q1 : (13 : Nat) = gp := g1
    have q3 : zst2 = [] := zi_F2_nil g3
    have q5 : (0 : Nat) = gc := g5
    have q6 : (0 : Nat) = gs := g6
    have q4 : yi_hr (I, L, R, Y) A2 := g4
    clear g1 g2 g3 g4 g5 g6
    subst q1 q3 q5 q6
    refine zi_o22 (v := .inl (.int 1)) (A' := A2) (mc := 1) (ms := 6) hY (fun ws vs hav hA => zi_lfirst hst (yi_hr_0 f4 hC.2.2.2.1.1) hz hav hA) C (show nc + 1 ≤ 601024 by omega) (show ns + 6 ≤ 7293033 by omega) hS1 (fun ws2 H2 locs2 ls2 sc2 hS2 => ?_)
    exact lw_m2 hl hL C hi h7 hn (kk := 1) hJ (cl_P_r hC) (lw_H_r hJ.1.2.1 hJ.2.1.1 hJ.2.2.1) (c1 := 1) (s1 := 6) (by omega) (by omega) (f := (1019, zal, [.inl (.int 1)], A2, nc + 1, ns + 6)) ⟨rfl, f2, ⟨⟨1, rfl, rfl⟩, trivial⟩, q4, rfl, rfl⟩ hS2 ih
theorem lw_m0 {sl : List Int} {zsl : List zi_V} (hl : zi_F2 (fun z v => yi_vr (.inl z) v) sl zsl) (hL : sl.length ≤ 3584) (h1 : 1 ≤ sl.length) (C : zi_Cx p room_1 s m #[Value.ref b] meth c s.heap.size D dA adK adV b zi_mlaw 60 zsl) {n : Nat} {i : Int} (hi : 0 ≤ i) (hi2 : i ≤ 4000) (h7 : ¬ i + 7 ≤ sl.length) (hn : n ≤ 512) (g : yi_F) (zg : zi_F) (hg : lw_N n i g) (hf : yi_fr g zg) {ws : va_W} {H : Heap} {locs : List Loc} {ls : Array Slot} {sc : List Value} (hS : zi_St s.heap.size D dA adK adV b 7 s zg ws H locs ls sc) : zi_W p l e room_1 s m #[Value.ref b] below meth c (lw_Z below #[Value.ref b] s) zg.2.2.2.2.1 zg.2.2.2.2.2 zg.1 H locs ls sc := by
  obtain ⟨I, L, R, Y, nc, ns, rfl, hJ⟩ := hg
  have j6 := hJ.1.1.2.2.2.2.2.1.1
  have j7 := hJ.1.1.2.2.2.2.2.2.1
  refine zi_yiL C zi_law_ok hl (by omega) hf (lw_ex hi hi2 h1 h7 hL) hS ?_ ?_
  · rintro _ rfl
    exact ⟨show nc ≤ 601024 by omega, show ns ≤ 7293033 by omega⟩
  rintro _ ⟨pc, zal, zst, A, znc, zns⟩ rfl ⟨f1, f2, f3, f4, f5, f6⟩ ws1 H1 locs1 ls1 sc1 hS1
  obtain ⟨w1, s1, e1, ⟨y1, v1, r1⟩, k1⟩ := zi_F2_cons f3
  have en := zi_F2_nil k1
  have e1 : zst = w1 :: s1 := e1
  subst e1 en v1
  have f1 : (1405 : Nat) = pc := f1
  have f5 : nc = znc := f5
  have f6 : ns = zns := f6
  subst f1 f5 f6
  have hy : y1 = 1 := by
    rw [zi_ieq, r1]
    decide
  subst hy
  obtain ⟨g1, g2, g3, g4, g5, g6⟩ := hS1
  obtain ⟨w, t, q1, q2, q3⟩ := zi_F2_cons g6
  have q4 := zi_F2_nil q3
  have q2 : w = .int 1 := q2
  subst q1 q4 q2
  exact zi_end C (show nc ≤ 601024 by omega) (show ns ≤ 7293033 by omega) g3
theorem lw_mn (hst : l.stackTraces = false) (hY : zi_Y s.heap.size s) {sl : List Int} {zsl : List zi_V} (hl : zi_F2 (fun z v => yi_vr (.inl z) v) sl zsl) (hL : sl.length ≤ 3584) (h1 : 1 ≤ sl.length) (C : zi_Cx p room_1 s m #[Value.ref b] meth c s.heap.size D dA adK adV b zi_mlaw 60 zsl) : ∀ (k n : Nat) (i : Int), n + k = 512 → i = 7 * (n : Int) → ∀ (g : yi_F) (zg : zi_F), lw_N n i g → yi_fr g zg → ∀ (ws : va_W) (H : Heap) (locs : List Loc) (ls : Array Slot) (sc : List Value), zi_St s.heap.size D dA adK adV b 7 s zg ws H locs ls sc → zi_W p l e room_1 s m #[Value.ref b] below meth c (lw_Z below #[Value.ref b] s) zg.2.2.2.2.1 zg.2.2.2.2.2 zg.1 H locs ls sc
  | 0, n, i, hk, hi, g, zg, hg, hf, ws, H, locs, ls, sc, hS => lw_m0 hl hL h1 C (n := n) (i := i) (by omega) (by omega) (by omega) (by omega) g zg hg hf hS
  | k + 1, n, i, hk, hi, g, zg, hg, hf, ws, H, locs, ls, sc, hS => by
    have ih := lw_mn hst hY hl hL h1 C k (n + 1) (i + 7) (by omega) (by omega)
    by_cases h7 : i + 7 ≤ sl.length
    · obtain ⟨I, L, R, Y, nc, ns, rfl, hJ⟩ := hg
      have j6 := hJ.1.1.2.2.2.2.2.1.1
      have j7 := hJ.1.1.2.2.2.2.2.2.1
      refine zi_yiL C zi_law_ok hl (by omega) hf (lw_it (n := n) (by omega) h7 hL hJ) hS ?_ ?_
      · rintro g (hg | rfl)
        · exact lw_bdN hg (by omega)
        · exact ⟨show nc ≤ 601024 by omega, show ns ≤ 7293033 by omega⟩
      · rintro g zg (hg | rfl) hfr ws1 H1 locs1 ls1 sc1 hS1
        · exact ih g zg hg hfr ws1 H1 locs1 ls1 sc1 hS1
        · exact lw_m1 hst hY hl hL C (by omega) h7 (by omega) hJ hfr hS1 ih
    · exact lw_m0 hl hL h1 C (n := n) (i := i) (by omega) (by omega) h7 (by omega) g zg hg hf hS
end ZF
