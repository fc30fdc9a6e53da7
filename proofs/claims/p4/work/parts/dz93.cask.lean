/-! The class's ask. -/
theorem p_askC {d : Nat} {I L : Nat → Nat → Int} {R : Nat → Nat → Option Nat} {Y : (Nat → Nat) × (Nat → Nat) × Nat} {pf : Nat → Bool} {n T da pe ev pr q c u : Nat} {A : ss_R} {W : Nat → ss_R} {l : ss_R} {S : ss_T} {U : Nat → ss_T} {M : Nat → Option (ss_T × Option ss_R)} {aq : Option ss_R} (hD : lz_D I L R Y pf n da pe ev pr q c u A W l S U M aq) (hK : cz_K R Y) (hkn : kn_K R Y) (hy : wy_S R Y) (h34 : I 34 2 = (T : Int) ∧ I 34 7 = (da : Int) ∧ I 34 8 = (pe : Int) ∧ I 34 9 = (n : Int)) (hnT : n = (T + 63) / 64 ∧ 1 ≤ T ∧ T ≤ 32768) (hbw : bw_W W n T da pe ev) (h60 : ∃ c, R 60 0 = some c) {ld : Nat → Int} {nm : Int → Int} (hq : lq_C q ld nm I L R Y) (h58 : 58 ≤ q) (hnum : ld 0 = (da : Int) ∧ ld 1 = (pe : Int) ∧ ld 2 = (ev : Int) ∧ 0 ≤ ld 3) (hNM : sp_NM pe ev nm) (ht : S.1.1 ≤ 12) (hS : cs_S R Y) {s : Nat → Int} {n0 : Nat} (hn0 : n0 ≤ 1000) (h5 : I 12 5 = (n0 : Int)) (hs : ∀ i, i < n0 → I 13 i = s i) (hb : ∀ i, i < n0 → 0 ≤ s i ∧ s i ≤ 127) (hkw : ∀ j : Nat, j < 29 → sp_WR (L 17 j) (sp_W37.getD j 0)) (hw18 : L 18 0 = 72564293 ∧ L 18 1 = 1265842 ∧ L 18 2 = 671108) (hwf : ∀ a cs, sp_R (tk_Ks s n0) (tk_Ps s n0) (tk_Vs s n0) (3, 0, 0, [10, 22], ld, nm, []) (.inl (7, a, 0, [22], ld, nm, cs)) → tk_Ks s n0 a = 59 → tk_Ks s n0 (a + 1) = 0 → wfN 13 cs ∧ ∀ x ∈ cs, pF x) : yi_P zi_Ms d 139 [.inr (.inr (some 10))] (I, L, R, Y) (fun r => ∃ f I' L' R' Y' n' m', r = (some (.inl f), (I', L', R', Y'), n', m') ∧ sp_R (tk_Ks s n0) (tk_Ps s n0) (tk_Vs s n0) (3, 0, 0, [10, 22], ld, nm, []) (.inr f) ∧ (¬ f = 0 → lz_D I' L' R' Y' pf n da pe ev pr q c u A W l S U M aq) ∧ (f = 0 → ∃ a cs, (sp_R (tk_Ks s n0) (tk_Ps s n0) (tk_Vs s n0) (3, 0, 0, [10, 22], ld, nm, []) (.inl (7, a, 0, [22], ld, nm, cs)) ∧ tk_Ks s n0 a = 59 ∧ tk_Ks s n0 (a + 1) = 0) ∧ ∃ pf' rr, (∀ x, pf x = true → pf' x = true) ∧ rr_b n T (vB da pe ev 0 cs) rr ∧ lz_D I' L' R' Y' pf' n da pe ev pr q c u A W l S U M (some rr))) := by
  refine yi_P_of (M := zi_m139) rfl (fun d k => ?_)
  have hA := hD.1.1.1
  have hN := hA.2.2.2
  have h20 : 20 ≤ q := by omega
  have h16 : R 10 16 = some q := hD.1.2.1.1
  have hq110 : q < Y.2.2 := hD.1.2.1.2.2.1
  have bld := hD.1.2.2.1.1
  have hTn : T ≤ 64 * n := by omega
  show yi_D zi_Ms d zi_m139 k (0, [(0, .inr (.inr (some 10)))], [], (I, L, R, Y), 0, 0) _
  refine yi_D_run 1 (1, [(0, .inr (.inr (some 10)))], [.inr (.inr (some 10))], (I, L, R, Y), 0, 0) (fun _ => rfl) ?_
  refine yi_D_gr (v := some 12) rfl rfl rfl (at_r hA (j := 1) rfl) (fun _ => ?_)
  refine yi_D_callv rfl (p_cut ⟨hS, trivial⟩ hn0 h5 hs hb hkw hw18) ?_
  rintro _ ⟨I1, L2, rfl, T3, h54, fI5, fL6⟩
  have hq1 := lq_C_t (I' := I1) (L' := L2) (R' := R) (Y' := Y) hq (fun p k h1 h2 => ⟨fI5 p k (by omega), fL6 p k (by omega), rfl⟩) (fun _ _ => rfl) (Nat.le_refl _)
  have hfI1 := fI5
  have hfL1 := fL6
  show yi_D zi_Ms d zi_m139 k (7, [(0, .inr (.inr (some 10)))], [], (I1, L2, R, Y), 0, 0) _
  refine yi_D_run 1 (8, [(0, .inr (.inr (some 10)))], [.inr (.inr (some 10))], (I1, L2, R, Y), 0, 0) (fun _ => rfl) ?_
  refine yi_D_gr (v := some 11) rfl rfl rfl (at_r hA (j := 0) rfl) (fun _ => ?_)
  refine yi_D_run 1 (12, [(0, .inr (.inr (some 10)))], [.inr (.inr (some 10)), .inr (.inr (some 11))], (I1, L2, R, Y), 0, 0) (fun _ => rfl) ?_
  refine yi_D_gr (v := some q) rfl rfl rfl h16 (fun _ => ?_)
  refine yi_D_callv rfl ((yi_P_a (p_readAskedC hS T3 hq1 h20 hnum.1 (ft_I hA hkn) hN) (cz_P hK (by decide +kernel) (cy_ve rfl (cy_c (cy_p (by omega)) (cy_c (cy_p (by omega)) cy_0)))))) ?_
  rintro _ ⟨⟨f7, I8, L9, R10, rfl, sp11, fr12, ok13⟩, K14⟩
  have hK3 : cz_K R10 Y := K14
  have hF3 : tf_F I L R Y I8 L9 R10 Y := ⟨fun x k hx h => by unfold tf_I at h; exact (fr12.1 x k (by omega) (by omega)).trans (hfI1 x k (by omega)), fun x k hx h => by unfold tf_L at h; exact (fr12.2.1 x k (fun e => h (Or.inl e))).trans (hfL1 x k (fun e => h (Or.inr (Or.inl e)))), fun x k hx h => by unfold tf_R at h; exact fr12.2.2 x k (by omega), Nat.le_refl _, fun _ _ => ⟨rfl, rfl⟩⟩
  have hD3 := lz_fr hD h58 hF3 (fun x e => Or.inl (by rw [← fr12.2.2 60 0 (by omega)]; exact e))
  show yi_D zi_Ms d zi_m139 k (18, [(0, .inr (.inr (some 10)))], [.inl f7], (I8, L9, R10, Y), 0, 0) _
  refine yi_D_run 2 (20, [(1, .inl f7), (0, .inr (.inr (some 10)))], [.inl f7], (I8, L9, R10, Y), 0, 0) (fun _ => rfl) ?_
  by_cases h15 : f7 = 0
  · refine yi_D_if1 true rfl (yi_eq_t h15) ?_
    refine yi_D_run 1 (26, [(1, .inl f7), (0, .inr (.inr (some 10)))], [.inr (.inr (some 10))], (I8, L9, R10, Y), 0, 0) (fun _ => rfl) ?_
    have r16 : R10 10 2 = some 34 := by rw [fr12.2.2 10 2 (by omega), (at_r hA (j := 2) rfl)]
    refine yi_D_gr (v := some 34) rfl rfl rfl r16 (fun _ => ?_)
    refine yi_D_run 1 (30, [(1, .inl f7), (0, .inr (.inr (some 10)))], [.inr (.inr (some 10)), .inr (.inr (some 34))], (I8, L9, R10, Y), 0, 0) (fun _ => rfl) ?_
    have r17 : R10 10 0 = some 11 := by rw [fr12.2.2 10 0 (by omega), (at_r hA (j := 0) rfl)]
    refine yi_D_gr (v := some 11) rfl rfl rfl r17 (fun _ => ?_)
    have r18 : R10 11 2 = some 19 := by rw [fr12.2.2 11 2 (by omega), (at_r hA (j := 18) rfl)]
    refine yi_D_gr (v := some 19) rfl rfl rfl r18 (fun _ => ?_)
    refine yi_D_run 2 (38, [(1, .inl f7), (0, .inr (.inr (some 10)))], [.inr (.inr (some 10)), .inl 0, .inr (.inr (some 19)), .inr (.inr (some 34))], (I8, L9, R10, Y), 0, 0) (fun _ => rfl) ?_
    have r19 : R10 10 0 = some 11 := by rw [fr12.2.2 10 0 (by omega), (at_r hA (j := 0) rfl)]
    refine yi_D_gr (v := some 11) rfl rfl rfl r19 (fun _ => ?_)
    refine yi_D_gi (v := I8 11 3) rfl rfl rfl rfl (fun _ => ?_)
    refine yi_D_run 1 (45, [(1, .inl f7), (0, .inr (.inr (some 10)))], [.inr (.inr (some 10)), .inl (I8 11 3), .inl 0, .inr (.inr (some 19)), .inr (.inr (some 34))], (I8, L9, R10, Y), 0, 0) (fun _ => rfl) ?_
    have r20 : R10 10 10 = some 60 := by rw [fr12.2.2 10 10 (by omega), (at_r hA (j := 10) rfl)]
    refine yi_D_gr (v := some 60) rfl rfl rfl r20 (fun _ => ?_)
    obtain ⟨a0, cs0, ⟨sp0, k59, k00⟩, hsay, hlen0⟩ := ok13 (by omega)
    obtain ⟨wf1, wf2⟩ := hwf a0 cs0 sp0 k59 k00
    have hok0 := sp_ok_R (c := (3, 0, 0, [10, 22], ld, nm, [])) ⟨⟨da, pe, ev, hnum, bld, hNM, fun x hx => by cases hx⟩, fun z => absurd z (by show ¬ (3 : Nat) = 0; omega)⟩ (fun z => absurd z (by show ¬ 8 ≤ 3; omega)) sp0
    obtain ⟨⟨da2, pe2, ev2, hl2, -, -, hz⟩, -⟩ := hok0
    have hl2 : ld 0 = (da2 : Int) ∧ ld 1 = (pe2 : Int) ∧ ld 2 = (ev2 : Int) ∧ 0 ≤ ld 3 := hl2
    obtain rfl : da2 = da := by omega
    obtain rfl : pe2 = pe := by omega
    obtain rfl : ev2 = ev := by omega
    have hz : ∀ x ∈ cs0, x.1 = 11 → okz da2 pe2 ev2 x.2 := hz
    obtain ⟨u1, u2, u3, -⟩ := hsay
    have hcd : ∀ k, k < cs0.length → I8 19 k = (((I8 19 k).toNat : Nat) : Int) := fun k hk => by
      have h0 : 0 ≤ I8 19 k := by rw [u3 k hk]; exact trF_nn
      omega
    have hprg : prg_S (fun k => (I8 19 k).toNat) n T da2 pe2 ev2 0 cs0.length (vB da2 pe2 ev2 0 cs0) := prg_1 (prg_V bld hTn wf1 wf2 hz (fun k hk => by
      show (((I8 19 (0 + k)).toNat : Nat) : Int) = _
      rw [Nat.zero_add, ← hcd k hk]
      exact u3 k hk))
    have hy3 : wy_S R10 Y := lc_wy hy (fun i => fr12.2.2 39 i (by omega)) (fun i => fr12.2.2 40 i (by omega)) (fun f h1 h2 => fr12.2.2 f 0 (by omega)) (Nat.le_refl _) (fun _ _ => ⟨rfl, rfl⟩)
    skip
    have h343 : I8 34 2 = (T : Int) ∧ I8 34 7 = (da2 : Int) ∧ I8 34 8 = (pe2 : Int) ∧ I8 34 9 = (n : Int) := ⟨(hF3.1 34 2 (by omega) (by unfold tf_I; omega)).trans h34.1, (hF3.1 34 7 (by omega) (by unfold tf_I; omega)).trans h34.2.1, (hF3.1 34 8 (by omega) (by unfold tf_I; omega)).trans h34.2.2.1, (hF3.1 34 9 (by omega) (by unfold tf_I; omega)).trans h34.2.2.2⟩
    have h603 : ∃ c, R10 60 0 = some c := by obtain ⟨c6, e6⟩ := h60; exact ⟨c6, (fr12.2.2 60 0 (by omega)).trans e6⟩
    refine yi_D_callv rfl (p_solve60 hD3.1 hK3 hy3 h343 hnT hbw (m := cs0.length) (by rw [u1]; rfl) (by omega) h603 hcd hprg) ?_
    rintro _ ⟨I21, L22, R23, Y24, n25, m26, c27, d28, rfl, e29, z30, b31, k32, fL33⟩
    have fR34 : ∀ p k, p < 110 ∧ ¬ p = 60 → R23 p k = R10 p k := fun p k h => (z30.2.1 p k (by omega)).2 (by omega)
    have hN4 := z30.2.2.1.1
    have hY4 := z30.2.2.1.2
    have w35 : rw_S I21 R23 Y24 60 d28 n := by
      obtain ⟨⟨w1, w2, w3, w4, w5, w6⟩, -, -, -⟩ := id z30
      exact ⟨⟨by omega, w4, by omega, w5, (hY4 60 (by omega)).1.trans (at_k hA (j := 12) rfl), w6⟩, w1, w2, w3, by omega⟩
    show yi_D zi_Ms d zi_m139 k (51, [(1, .inl f7), (0, .inr (.inr (some 10)))], [], (I21, L22, R23, Y24), (0 + n25), (0 + m26)) _
    refine yi_D_run 1 (52, [(1, .inl f7), (0, .inr (.inr (some 10)))], [.inr (.inr (some 10))], (I21, L22, R23, Y24), (0 + n25), (0 + m26)) (fun _ => rfl) ?_
    have r36 : R23 10 6 = some 50 := by rw [fR34 10 6 (by omega), fr12.2.2 10 6 (by omega), (at_r hA (j := 6) rfl)]
    refine yi_D_gr (v := some 50) rfl rfl rfl r36 (fun _ => ?_)
    refine yi_D_run 1 (56, [(1, .inl f7), (0, .inr (.inr (some 10)))], [.inr (.inr (some 10)), .inr (.inr (some 50))], (I21, L22, R23, Y24), (0 + n25), (0 + m26)) (fun _ => rfl) ?_
    have r37 : R23 10 10 = some 60 := by rw [fR34 10 10 (by omega), fr12.2.2 10 10 (by omega), (at_r hA (j := 10) rfl)]
    refine yi_D_gr (v := some 60) rfl rfl rfl r37 (fun _ => ?_)
    refine yi_D_callv rfl (p_copyOut w35 (by omega)) ?_
    rintro _ ⟨I38, L39, R40, Y41, n42, m43, p44, c45, rfl, ep46, lc47, w48, v49, fr50, N51, Yk52, new53, N354⟩
    have fR555 : ∀ p k, p < 110 → R40 p k = R23 p k := fun p k h => (fr50 p k (by omega)).2.2
    show yi_D zi_Ms d zi_m139 k (62, [(1, .inl f7), (0, .inr (.inr (some 10)))], [.inr (.inr (some p44)), .inr (.inr (some 50))], (I38, L39, R40, Y41), ((0 + n25) + n42), ((0 + m26) + m43)) _
    refine yi_D_prw rfl (fun _ => ?_)
    generalize w57 : cl_u R40 50 5 (some p44) = R56
    refine yi_D_run 1 (66, [(1, .inl f7), (0, .inr (.inr (some 10)))], [.inl 0], (I38, L39, R56, Y41), ((0 + n25) + n42), ((0 + m26) + m43)) (fun _ => rfl) ?_
    refine yi_D_reti rfl ?_
    have hz4 := z30
    obtain ⟨⟨w1, w2, w3, w4, w5, w6x⟩, wf, -, wc⟩ := id hz4
    have hc46 : d28 = c27 ∨ Y.2.2 ≤ d28 := by rcases wc with ⟨x, -⟩ | ⟨x, -⟩ <;> omega
    have hF5 : tf_F I8 L9 R10 Y I38 L39 R40 Y41 := ⟨fun x k hx h => by unfold tf_I at h; exact ((fr50 x k (by omega)).1).trans ((wf x k hx).1 (by omega)), fun x k hx h => by
      unfold tf_L at h
      exact ((fr50 x k (by omega)).2.1).trans (fL33 x k hx (fun e => by rcases hc46 with y | y; exact h (Or.inr (Or.inr (Or.inr (by rw [e29, e, y])))); omega) (fun e => h (Or.inr (Or.inr (Or.inl e)))))
      , fun x k hx h => by unfold tf_R at h; exact ((fr50 x k (by omega)).2.2).trans ((wf x k hx).2 (by omega)), by omega, fun x hx => ⟨(Yk52 x (by omega)).1.trans (hY4 x hx).1, (Yk52 x (by omega)).2.trans (hY4 x hx).2⟩⟩
    have e605 : R40 60 0 = some d28 := ((fr50 60 0 (by omega)).2.2).trans w1
    have hD5 := lz_fr hD3 h58 hF5 (fun x e => by
      rw [e605] at e
      cases e
      rcases hc46 with y | y
      · exact Or.inl (by rw [e29, y])
      · exact Or.inr y)
    have hbd : ∀ x k y, x < Y.2.2 → R x k = some y → y < Y.2.2 := fun x k y hx e => ((hK I L).1 x k y hx e).1
    have rr : ∀ x k, (x = 62 ∨ x = 41 ∨ x = 46) → R40 x k = R x k := fun x k hx => (hF5.2.2.1 x k (by omega) (by unfold tf_R; omega)).trans (fr12.2.2 x k (by omega))
    have hnq : ∀ x, Y24.2.2 ≤ x → ¬ qs_S R40 x := fun x hx hs => by
      unfold qs_S at hs
      rcases hs with y | y | y | y | y | y
      · omega
      · omega
      · rw [e605] at y; cases y; omega
      · rw [rr 62 0 (by omega)] at y; have := hbd 62 0 x (by omega) y; omega
      · rw [rr 41 0 (by omega)] at y; have := hbd 41 0 x (by omega) y; omega
      · rw [rr 46 1 (by omega)] at y; have := hbd 46 1 x (by omega) y; omega
    have hcN := hD5.2.1.1.1.2.2.2.1
    have hcN0 := hD.2.1.1.1.2.2.2.1
    obtain ⟨pf2, hm2, hD6⟩ := lz_ask (R' := R56) (f := p44) (c2 := c45) (r := fun k => L39 c45 k) hD5 ht (by rw [← w57]; exact cl_u_eq ..) (fun x k h => by rw [← w57]; exact cl_u_ne _ _ h) w48 (fun _ _ => rfl) ⟨hnq _ (by omega), hnq _ (by omega)⟩ ⟨by omega, by omega, by omega⟩
    refine ⟨_, _, _, _, _, _, _, rfl, (show f7 = 0 by omega) ▸ sp11, fun h0 => absurd rfl h0, fun _ => ⟨a0, cs0, ⟨sp0, k59, k00⟩, pf2, fun k => L39 c45 k, hm2, ⟨fun k hk => ?_, fun x hx => ?_⟩, hD6⟩⟩
    · show b64 (L39 c45 k)
      rw [v49 k hk]
      exact k32 k hk
    · have y := b31 x hx
      unfold rbc at y
      show yb (L39 c45 (x / 64)) (x % 64) = _
      rw [v49 _ (by omega)]
      exact y
  · refine yi_D_if1 false rfl (yi_eq_f h15) ?_
    refine yi_D_run 1 (24, [(1, .inl f7), (0, .inr (.inr (some 10)))], [.inl f7], (I8, L9, R10, Y), 0, 0) (fun _ => rfl) ?_
    refine yi_D_reti rfl ?_
    exact ⟨_, _, _, _, _, _, _, rfl, sp11, fun _ => hD3, fun h0 => absurd h0 (by omega)⟩
