/-! The class's tell. -/
theorem ym_ct_c {f g : Nat → Int} : ∀ n, (∀ k, k < n → f k = g k) → ym_ct f n = ym_ct g n
  | 0, _ => rfl
  | n + 1, h => by
    show yi_w (ym_ct f n + ym_on (f n)) = yi_w (ym_ct g n + ym_on (g n))
    rw [ym_ct_c n (fun k hk => h k (by omega)), h n (by omega)]
theorem wtl_sat {kd : Int} {b : Bool} (h : ¬ (kd = 4 ∧ b = true)) : wtl kd b = sat kd := by
  unfold wtl sat
  rw [if_neg h]
/-- what a saying costs -/
def tq_fa (be af to : Int) (i : Nat) : Int := if i = 0 then (if 9999 < be then 9999 else be) else if i = 1 then (if 9999 < af then 9999 else af) else to
def tq_w (be af to : Int) (px : List (Int × Int)) : Int := ((rn (tq_fa be af to) (fun _ => false) px []).getD []).headD 0
def tq_p (be af to : Int) (px : List (Int × Int)) : Int := if 0 < (if 99 < tq_w be af to px then 99 else tq_w be af to px) then (if 99 < tq_w be af to px then 99 else tq_w be af to px) else 0
theorem tq_b {be af to : Int} {px : List (Int × Int)} : 0 ≤ tq_p be af to px ∧ tq_p be af to px ≤ 99 := by
  unfold tq_p
  generalize tq_w be af to px = w
  split <;> split <;> omega
def tq_px (ld : Nat → Int) (cs : List (Int × Int)) : List (Int × Int) := if ld 6 < 0 then [(1, 1)] else sgm cs (ld 6).toNat
theorem p_priceL {d : Nat} {I L : Nat → Nat → Int} {R : Nat → Nat → Option Nat} {Y : (Nat → Nat) × (Nat → Nat) × Nat} (hA : at_T R Y) {P : Nat} {px : List (Int × Int)} {be af to : Int} (hP : 10 ≤ P ∧ ¬ P = 45 ∧ Y.2.1 P = px.length ∧ px.length ≤ 1000) (hcd : ∀ k, k < px.length → I P k = trP (px.getD k (0, 0))) (hw : wfN 25 px) (hok : ∀ x ∈ px, okP x) : yi_P zi_Ms d 245 [.inr (.inr (some 44)), .inr (.inr (some P)), .inl be, .inl af, .inl to] (I, L, R, Y) (fun r => ∃ I', r = (some (.inl (tq_p be af to px)), (I', L, R, Y), 0, 0) ∧ ∀ q k, ¬ q = 45 → I' q k = I q k) := by
  obtain ⟨v, hv⟩ := hw (tq_fa be af to) (fun _ => false) [] (by show 0 + 25 ≤ 64; omega)
  obtain ⟨sk, k0, k1, k2, k3⟩ := rn_sk px [] [v] hv (by show 0 ≤ 64; omega)
  have e : tq_w be af to px = (sk px.length).headD 0 := by
    unfold tq_w
    rw [hv, k1]
    rfl
  have z := p_priceOf (d := d) (I := I) (L := L) hA (P := P) (m := px.length) (xs := fun k => px.getD k (0, 0)) (sk := sk) (be := be) (af := af) (to := to) (fa := tq_fa be af to) ⟨rfl, rfl, rfl⟩ (hcl := fun _ => false) ⟨hP.1, hP.2.1, hP.2.2.1, by omega⟩ hcd (fun k hk => hok _ (getD_mem hk)) ⟨k0, k2⟩ k3
  rw [← e] at z
  exact z
theorem p_kindOfQ {d : Nat} {I L : Nat → Nat → Int} {R : Nat → Nat → Option Nat} {Y : (Nat → Nat) × (Nat → Nat) × Nat} {q : Nat} {ld : Nat → Int} {nm : Int → Int} (hq : lq_C q ld nm I L R Y) (h20 : 20 ≤ q) {v : Int} (hv : 8 ≤ nm v ∧ nm v ≤ 12) : (0 ≤ nm v - 8 ∧ nm v - 8 < ld 3 ∧ ld 3 ≤ 5) ∧ yi_P zi_Ms d 234 [.inr (.inr (some q)), .inl (nm v - 8)] (I, L, R, Y) (fun r => r = (some (.inl (ld (11 + 2 * (nm v - 8).toNat))), (I, L, R, Y), 0, 0)) := by
  obtain ⟨R2, e, ⟨⟨c20, c6, cr, c14⟩, ⟨i14, i15, i16, i17, i18, i19⟩, ⟨b0, b1, b2, b3, b4, b5⟩, -, -, ⟨-, -, n3⟩, -, hw⟩⟩ := hq
  have z := (n3.2.2 v hv.1 hv.2).1
  have r4 : R q 4 = some (q + 5) := by
    rw [← e q 4 (by omega)]
    exact cr 4 (by omega)
  have hb : 0 ≤ nm v - 8 ∧ nm v - 8 < ld 3 := by omega
  refine ⟨⟨by omega, by omega, b3.2⟩, (p_kindOf (x := nm v - 8) (by omega) i17 b3.2 r4).imp (fun r h => ?_)⟩
  rw [h, if_pos hb, (hw (nm v - 8).toNat (by omega)).1]
theorem p_initSaying {d : Nat} {I L : Nat → Nat → Int} {R : Nat → Nat → Option Nat} {Y : (Nat → Nat) × (Nat → Nat) × Nat} {y f : Nat} {a b e : Int} (hy : 10 ≤ y) : yi_P zi_Ms d 273 [.inr (.inr (some y)), .inl a, .inl b, .inl e, .inr (.inr (some f))] (I, L, R, Y) (fun r => ∃ I' R', r = (none, (I', L, R', Y), 0, 0) ∧ (I' y 0 = a ∧ I' y 1 = b ∧ I' y 2 = e) ∧ R' y 3 = some f ∧ (∀ q k, ¬ q = y → I' q k = I q k) ∧ (∀ q k, ¬ q = y → R' q k = R q k)) := by
  refine yi_P_of (M := zi_m273) rfl (fun d k => ?_)
  show yi_D zi_Ms d zi_m273 k (0, [(0, .inr (.inr (some y))), (1, .inl a), (2, .inl b), (3, .inl e), (4, .inr (.inr (some f)))], [], (I, L, R, Y), 0, 0) _
  refine yi_D_run 4 (6, [(0, .inr (.inr (some y))), (1, .inl a), (2, .inl b), (3, .inl e), (4, .inr (.inr (some f)))], [.inl a, .inr (.inr (some y))], (I, L, R, Y), 0, 0) (fun _ => rfl) ?_
  refine yi_D_pi rfl (fun _ => ?_)
  generalize w2 : yi_u I y 0 a = I1
  refine yi_D_run 2 (11, [(0, .inr (.inr (some y))), (1, .inl a), (2, .inl b), (3, .inl e), (4, .inr (.inr (some f)))], [.inl b, .inr (.inr (some y))], (I1, L, R, Y), 0, 0) (fun _ => rfl) ?_
  refine yi_D_pi rfl (fun _ => ?_)
  generalize w4 : yi_u I1 y 1 b = I3
  refine yi_D_run 2 (16, [(0, .inr (.inr (some y))), (1, .inl a), (2, .inl b), (3, .inl e), (4, .inr (.inr (some f)))], [.inl e, .inr (.inr (some y))], (I3, L, R, Y), 0, 0) (fun _ => rfl) ?_
  refine yi_D_pi rfl (fun _ => ?_)
  generalize w6 : yi_u I3 y 2 e = I5
  refine yi_D_run 2 (22, [(0, .inr (.inr (some y))), (1, .inl a), (2, .inl b), (3, .inl e), (4, .inr (.inr (some f)))], [.inr (.inr (some f)), .inr (.inr (some y))], (I5, L, R, Y), 0, 0) (fun _ => rfl) ?_
  refine yi_D_prw rfl (fun _ => ?_)
  generalize w8 : cl_u R y 3 (some f) = R7
  refine yi_D_retv rfl ?_
  refine ⟨_, _, rfl, ⟨?_, ?_, ?_⟩, by rw [← w8]; exact cl_u_eq .., fun q k h => ?_, fun q k h => ?_⟩
  · rw [← w6, yi_u_ne _ _ (by omega), ← w4, yi_u_ne _ _ (by omega), ← w2, yi_u_eq]
  · rw [← w6, yi_u_ne _ _ (by omega), ← w4, yi_u_eq]
  · rw [← w6, yi_u_eq]
  · rw [← w6, yi_u_ne _ _ (by omega), ← w4, yi_u_ne _ _ (by omega), ← w2, yi_u_ne _ _ (by omega)]
  · rw [← w8, cl_u_ne _ _ (by omega)]
theorem ln_px {I : Nat → Nat → Int} {R : Nat → Nat → Option Nat} {Y : (Nat → Nat) × (Nat → Nat) × Nat} {q : Nat} {ld : Nat → Int} {cs : List (Int × Int)} (h : ln_Pr I R Y q ld cs) : ∃ pp, (R q 12 = some pp ∧ q + 13 ≤ pp ∧ pp < Y.2.2 ∧ Y.1 pp = 20) ∧ Y.2.1 pp = (tq_px ld cs).length ∧ ∀ k, k < (tq_px ld cs).length → I pp k = trP ((tq_px ld cs).getD k (0, 0)) := by
  obtain ⟨pp, h1, h2⟩ := h
  refine ⟨pp, h1, ?_⟩
  unfold tq_px
  rcases h2 with ⟨a, b, c⟩ | ⟨a, -, b, c⟩
  · rw [if_pos a]
    refine ⟨b, fun k hk => ?_⟩
    have hk : k < 1 := hk
    obtain rfl : k = 0 := by omega
    rw [c]
    rfl
  · rw [if_neg (by omega)]
    exact ⟨b, c⟩
theorem p_tellC {d : Nat} {I L : Nat → Nat → Int} {R : Nat → Nat → Option Nat} {Y : (Nat → Nat) × (Nat → Nat) × Nat} {pf : Nat → Bool} {n T da pe ev pr q c u : Nat} {A : ss_R} {W : Nat → ss_R} {l : ss_R} {S : ss_T} {U : Nat → ss_T} {M : Nat → Option (ss_T × Option ss_R)} {aq : Option ss_R} (hD : lz_D I L R Y pf n da pe ev pr q c u A W l S U M aq) (hK : cz_K R Y) (hkn : kn_K R Y) (hy : wy_S R Y) (h34 : I 34 2 = (T : Int) ∧ I 34 7 = (da : Int) ∧ I 34 8 = (pe : Int) ∧ I 34 9 = (n : Int)) (hnT : n = (T + 63) / 64 ∧ 1 ≤ T ∧ T ≤ 32768) (hbw : bw_W W n T da pe ev) (h60 : ∃ c, R 60 0 = some c) {ld : Nat → Int} {nm : Int → Int} (hq : lq_C q ld nm I L R Y) (h58 : 58 ≤ q) (hnum : ld 0 = (da : Int) ∧ ld 1 = (pe : Int) ∧ ld 2 = (ev : Int) ∧ 0 ≤ ld 3) (hNM : sp_NM pe ev nm) (ht : S.1.1 ≤ 12) (hS : cs_S R Y) {s : Nat → Int} {n0 : Nat} (hn0 : n0 ≤ 1000) (h5 : I 12 5 = (n0 : Int)) (hs : ∀ i, i < n0 → I 13 i = s i) (hb : ∀ i, i < n0 → 0 ≤ s i ∧ s i ≤ 127) (hkw : ∀ j : Nat, j < 29 → sp_WR (L 17 j) (sp_W37.getD j 0)) (hw18 : L 18 0 = 72564293 ∧ L 18 1 = 1265842 ∧ L 18 2 = 671108) (hwf : ∀ a cs, sp_R (tk_Ks s n0) (tk_Ps s n0) (tk_Vs s n0) (3, 1, 0, [10, 22], ld, nm, []) (.inl (7, a, 0, [22], ld, nm, cs)) → tk_Ks s n0 a = 59 → tk_Ks s n0 (a + 1) = 0 → wfN 13 cs ∧ ∀ x ∈ cs, pF x) {sg : Nat → Bool} {csl : List (Int × Int)} (hcg : cg_I (cg_pr sg Y) R Y) (hs9 : ∀ x, sg x = true → ¬ Y.1 x = 9) (hPr : ln_Pr I R Y q ld csl) (hpp : ∀ x, R q 12 = some x → sg x = true) (hpx : wfN 25 (tq_px ld csl) ∧ (∀ x ∈ tq_px ld csl, okP x) ∧ (tq_px ld csl).length ≤ 1000) (hpr : ld 3 = (pr : Int)) (hSo : S.1.1 ≤ 12 ∧ S.1.2.2 ≤ 20 ∧ ∀ j, j < pr → 0 ≤ S.2.2.2.1 j ∧ S.2.2.2.1 j ≤ 99999) : yi_P zi_Ms d 180 [.inr (.inr (some 10))] (I, L, R, Y) (fun r => ∃ f I' L' R' Y' n' m', r = (some (.inl f), (I', L', R', Y'), n', m') ∧ ((sy_F (tk_Ks s n0) (tk_Ps s n0) (tk_Vs s n0) ld nm f ∧ ¬ f = 0 ∧ lz_D I' L' R' Y' pf n da pe ev pr q c u A W l S U M aq) ∨ (sy_F (tk_Ks s n0) (tk_Ps s n0) (tk_Vs s n0) ld nm 0 ∧ ∃ a cs, (sp_R (tk_Ks s n0) (tk_Ps s n0) (tk_Vs s n0) (3, 1, 0, [10, 22], ld, nm, []) (.inl (7, a, 0, [22], ld, nm, cs)) ∧ (tk_Ks s n0) a = 59 ∧ (tk_Ks s n0) (a + 1) = 0) ∧ ((tk_Ks s n0) 0 = 3 ∧ 8 ≤ nm (tk_Vs s n0 0) ∧ nm (tk_Vs s n0 0) ≤ 12) ∧ cs.length ≤ 1000 ∧ ((¬ S.1.1 < 12 ∧ f = -3 ∧ lz_D I' L' R' Y' pf n da pe ev pr q c u A W l S U M aq) ∨ (S.1.1 < 12 ∧ ld (11 + 2 * (nm (tk_Vs s n0 0) - 8).toNat) = 4 ∧ cs.any isnm = true ∧ f = -2 ∧ lz_D I' L' R' Y' pf n da pe ev pr q c u A W l S U M aq) ∨ (S.1.1 < 12 ∧ ¬ (ld (11 + 2 * (nm (tk_Vs s n0 0) - 8).toNat) = 4 ∧ cs.any isnm = true) ∧ ∃ rr : ss_R, rr_b n T (wB da pe ev (ld (11 + 2 * (nm (tk_Vs s n0 0) - 8).toNat)) cs) rr ∧ ((ym_ct (fun k => yi_land (l k) (rr k)) n = 0 ∧ f = -1 ∧ lz_D I' L' R' Y' pf n da pe ev pr q c u A W l S U M aq) ∨ (¬ ym_ct (fun k => yi_land (l k) (rr k)) n = 0 ∧ f = 0 ∧ ∃ pf', (∀ x, pf x = true → pf' x = true) ∧ lz_D I' L' R' Y' pf' n da pe ev pr q c (us_n u) A W (fun k => yi_land (l k) (rr k)) (ss_tl S (nm (tk_Vs s n0 0) - 8) (tq_p (ym_ct (fun k => yi_land (l k) (l k)) n) (ym_ct (fun k => yi_land (l k) (rr k)) n) (S.1.1 : Int) (tq_px ld csl)) (ym_ct (fun k => yi_land (l k) (rr k)) n) (if 99999 < S.2.2.2.1 (nm (tk_Vs s n0 0) - 8).toNat + tq_p (ym_ct (fun k => yi_land (l k) (l k)) n) (ym_ct (fun k => yi_land (l k) (rr k)) n) (S.1.1 : Int) (tq_px ld csl) then 99999 else S.2.2.2.1 (nm (tk_Vs s n0 0) - 8).toNat + tq_p (ym_ct (fun k => yi_land (l k) (l k)) n) (ym_ct (fun k => yi_land (l k) (rr k)) n) (S.1.1 : Int) (tq_px ld csl)) rr) (us_p u U S) M aq))))))) := by
  refine yi_P_of (M := zi_m180) rfl (fun d k => ?_)
  have hA := hD.1.1.1
  have hN := hA.2.2.2
  have h20 : 20 ≤ q := by omega
  have h16 : R 10 16 = some q := hD.1.2.1.1
  have hq110 : q < Y.2.2 := hD.1.2.1.2.2.1
  have bld := hD.1.2.2.1.1
  have hTn : T ≤ 64 * n := by omega
  have hq20 : 20 ≤ q := h20
  have hq58 := h58
  have hc60 := h60
  have hc34 := h34
  obtain ⟨pp, pp1, pp2, pp3⟩ := ln_px hPr
  show yi_D zi_Ms d zi_m180 k (0, [(0, .inr (.inr (some 10)))], [], (I, L, R, Y), 0, 0) _
  refine yi_D_run 1 (1, [(0, .inr (.inr (some 10)))], [.inr (.inr (some 10))], (I, L, R, Y), 0, 0) (fun _ => rfl) ?_
  refine yi_D_gr (v := some 12) rfl rfl rfl (at_r hA (j := 1) rfl) (fun _ => ?_)
  refine yi_D_callv rfl (p_cut ⟨hS, trivial⟩ hn0 h5 hs hb hkw hw18) ?_
  rintro _ ⟨I1, L2, rfl, T3, h54, fI5, fL6⟩
  have hq1 := lq_C_t (I' := I1) (L' := L2) (R' := R) (Y' := Y) hq (fun p k h1 h2 => ⟨fI5 p k (by omega), fL6 p k (by omega), rfl⟩) (fun _ _ => rfl) (Nat.le_refl _)
  have hfI1 := fI5
  have hfL1 := fL6
  show yi_D zi_Ms d zi_m180 k (7, [(0, .inr (.inr (some 10)))], [], (I1, L2, R, Y), 0, 0) _
  refine yi_D_run 1 (8, [(0, .inr (.inr (some 10)))], [.inr (.inr (some 10))], (I1, L2, R, Y), 0, 0) (fun _ => rfl) ?_
  refine yi_D_gr (v := some 11) rfl rfl rfl (at_r hA (j := 0) rfl) (fun _ => ?_)
  refine yi_D_run 1 (12, [(0, .inr (.inr (some 10)))], [.inr (.inr (some 10)), .inr (.inr (some 11))], (I1, L2, R, Y), 0, 0) (fun _ => rfl) ?_
  refine yi_D_gr (v := some q) rfl rfl rfl h16 (fun _ => ?_)
  refine yi_D_callv rfl ((yi_P_a (p_readSayingC hS T3 hq1 hq20 hnum.1 (ft_I hA hkn) hN) (cz_P hK (by decide +kernel) (cy_ve rfl (cy_c (cy_p (by omega)) (cy_c (cy_p (by omega)) cy_0)))))) ?_
  rintro _ ⟨⟨f7, I8, L9, R10, rfl, sp11, fr12, ok13⟩, K14⟩
  have hK3 : cz_K R10 Y := K14
  have hF3 : tf_F I L R Y I8 L9 R10 Y := ⟨fun x k hx h => by unfold tf_I at h; exact (fr12.1 x k (by omega) (by omega)).trans (hfI1 x k (by omega)), fun x k hx h => by unfold tf_L at h; exact (fr12.2.1 x k (fun e => h (Or.inl e))).trans (hfL1 x k (fun e => h (Or.inr (Or.inl e)))), fun x k hx h => by unfold tf_R at h; exact fr12.2.2 x k (by omega), Nat.le_refl _, fun _ _ => ⟨rfl, rfl⟩⟩
  have hD3 := lz_fr hD h58 hF3 (fun x e => Or.inl (by rw [← fr12.2.2 60 0 (by omega)]; exact e))
  show yi_D zi_Ms d zi_m180 k (18, [(0, .inr (.inr (some 10)))], [.inl f7], (I8, L9, R10, Y), 0, 0) _
  refine yi_D_run 2 (20, [(1, .inl f7), (0, .inr (.inr (some 10)))], [.inl f7], (I8, L9, R10, Y), 0, 0) (fun _ => rfl) ?_
  by_cases h15 : f7 = 0
  · refine yi_D_if1 true rfl (yi_eq_t h15) ?_
    refine yi_D_run 1 (26, [(1, .inl f7), (0, .inr (.inr (some 10)))], [.inr (.inr (some 10))], (I8, L9, R10, Y), 0, 0) (fun _ => rfl) ?_
    obtain ⟨a0, cs0, ⟨sp0, k59, k00⟩, ⟨k3, nm8⟩, h114, ⟨u1, u5, u3, u4⟩, hlen0⟩ := ok13 (by omega)
    obtain ⟨wf1, wf2⟩ := hwf a0 cs0 sp0 k59 k00
    have hok0 := sp_ok_R (c := (3, 1, 0, [10, 22], ld, nm, [])) ⟨⟨da, pe, ev, hnum, bld, hNM, fun x hx => by cases hx⟩, fun z => absurd z (by show ¬ (3 : Nat) = 0; omega)⟩ (fun z => absurd z (by show ¬ 8 ≤ 3; omega)) sp0
    obtain ⟨⟨da2, pe2, ev2, hl2, -, -, hz⟩, -⟩ := hok0
    have hl2 : ld 0 = (da2 : Int) ∧ ld 1 = (pe2 : Int) ∧ ld 2 = (ev2 : Int) ∧ 0 ≤ ld 3 := hl2
    obtain rfl : da2 = da := by omega
    obtain rfl : pe2 = pe := by omega
    obtain rfl : ev2 = ev := by omega
    have hz : ∀ x ∈ cs0, x.1 = 11 → okz da2 pe2 ev2 x.2 := hz
    have hq3 := lq_C_t (I' := I8) (L' := L9) (R' := R10) (Y' := Y) hq1 (fun p k h1 h2 => ⟨fr12.1 p k (by omega) (by omega), fr12.2.1 p k (by omega), fr12.2.2 p k (by omega)⟩) (fun _ _ => rfl) (Nat.le_refl _)
    have h506 : I8 50 6 = (S.1.1 : Int) := hD3.2.2.1.2.1.1
    have r16 : R10 10 6 = some 50 := by rw [fr12.2.2 10 6 (by omega), (at_r hA (j := 6) rfl)]
    refine yi_D_gr (v := some 50) rfl rfl rfl r16 (fun _ => ?_)
    refine yi_D_gi (v := (S.1.1 : Int)) rfl rfl rfl h506 (fun _ => ?_)
    refine yi_D_run 1 (34, [(1, .inl f7), (0, .inr (.inr (some 10)))], [.inl 12, .inl (S.1.1 : Int)], (I8, L9, R10, Y), 0, 0) (fun _ => rfl) ?_
    by_cases h17 : (S.1.1 : Int) < 12
    · refine yi_D_if2 true rfl (yi_lt_t h17) ?_
      refine yi_D_run 1 (41, [(1, .inl f7), (0, .inr (.inr (some 10)))], [.inr (.inr (some 10))], (I8, L9, R10, Y), 0, 0) (fun _ => rfl) ?_
      have r18 : R10 10 0 = some 11 := by rw [fr12.2.2 10 0 (by omega), (at_r hA (j := 0) rfl)]
      refine yi_D_gr (v := some 11) rfl rfl rfl r18 (fun _ => ?_)
      refine yi_D_gi (v := nm (tk_Vs s n0 0) - 8) rfl rfl rfl h114 (fun _ => ?_)
      refine yi_D_run 2 (49, [(2, .inl (nm (tk_Vs s n0 0) - 8)), (1, .inl f7), (0, .inr (.inr (some 10)))], [.inr (.inr (some 10))], (I8, L9, R10, Y), 0, 0) (fun _ => rfl) ?_
      have r19 : R10 10 16 = some q := by rw [fr12.2.2 10 16 (by omega), h16]
      refine yi_D_gr (v := some q) rfl rfl rfl r19 (fun _ => ?_)
      refine yi_D_run 1 (53, [(2, .inl (nm (tk_Vs s n0 0) - 8)), (1, .inl f7), (0, .inr (.inr (some 10)))], [.inl (nm (tk_Vs s n0 0) - 8), .inr (.inr (some q))], (I8, L9, R10, Y), 0, 0) (fun _ => rfl) ?_
      refine yi_D_callv rfl ((p_kindOfQ hq3 hq20 nm8).2) ?_
      rintro _ rfl
      show yi_D zi_Ms d zi_m180 k (56, [(2, .inl (nm (tk_Vs s n0 0) - 8)), (1, .inl f7), (0, .inr (.inr (some 10)))], [.inl (ld (11 + 2 * (nm (tk_Vs s n0 0) - 8).toNat))], (I8, L9, R10, Y), 0, 0) _
      refine yi_D_run 1 (57, [(2, .inl (nm (tk_Vs s n0 0) - 8)), (1, .inl f7), (0, .inr (.inr (some 10)))], [.inl 4, .inl (ld (11 + 2 * (nm (tk_Vs s n0 0) - 8).toNat))], (I8, L9, R10, Y), 0, 0) (fun _ => rfl) ?_
      by_cases h20 : (ld (11 + 2 * (nm (tk_Vs s n0 0) - 8).toNat)) = 4
      · refine yi_D_if2 false rfl (yi_ne_f h20) ?_
        refine yi_D_run 1 (61, [(2, .inl (nm (tk_Vs s n0 0) - 8)), (1, .inl f7), (0, .inr (.inr (some 10)))], [.inr (.inr (some 10))], (I8, L9, R10, Y), 0, 0) (fun _ => rfl) ?_
        have r21 : R10 10 0 = some 11 := by rw [fr12.2.2 10 0 (by omega), (at_r hA (j := 0) rfl)]
        refine yi_D_gr (v := some 11) rfl rfl rfl r21 (fun _ => ?_)
        refine yi_D_gi (v := (if cs0.any isnm = true then (1 : Int) else 0)) rfl rfl rfl u5 (fun _ => ?_)
        by_cases h22 : (if cs0.any isnm = true then (1 : Int) else 0) = 0
        · refine yi_D_if1 true rfl (yi_eq_t h22) ?_
          refine yi_D_run 1 (74, [(2, .inl (nm (tk_Vs s n0 0) - 8)), (1, .inl f7), (0, .inr (.inr (some 10)))], [.inr (.inr (some 10))], (I8, L9, R10, Y), 0, 0) (fun _ => rfl) ?_
          have r23 : R10 10 2 = some 34 := by rw [fr12.2.2 10 2 (by omega), (at_r hA (j := 2) rfl)]
          refine yi_D_gr (v := some 34) rfl rfl rfl r23 (fun _ => ?_)
          refine yi_D_run 1 (78, [(2, .inl (nm (tk_Vs s n0 0) - 8)), (1, .inl f7), (0, .inr (.inr (some 10)))], [.inr (.inr (some 10)), .inr (.inr (some 34))], (I8, L9, R10, Y), 0, 0) (fun _ => rfl) ?_
          have r24 : R10 10 0 = some 11 := by rw [fr12.2.2 10 0 (by omega), (at_r hA (j := 0) rfl)]
          refine yi_D_gr (v := some 11) rfl rfl rfl r24 (fun _ => ?_)
          have r25 : R10 11 2 = some 19 := by rw [fr12.2.2 11 2 (by omega), (at_r hA (j := 18) rfl)]
          refine yi_D_gr (v := some 19) rfl rfl rfl r25 (fun _ => ?_)
          refine yi_D_run 2 (86, [(2, .inl (nm (tk_Vs s n0 0) - 8)), (1, .inl f7), (0, .inr (.inr (some 10)))], [.inr (.inr (some 10)), .inl 0, .inr (.inr (some 19)), .inr (.inr (some 34))], (I8, L9, R10, Y), 0, 0) (fun _ => rfl) ?_
          have r26 : R10 10 0 = some 11 := by rw [fr12.2.2 10 0 (by omega), (at_r hA (j := 0) rfl)]
          refine yi_D_gr (v := some 11) rfl rfl rfl r26 (fun _ => ?_)
          refine yi_D_gi (v := I8 11 3) rfl rfl rfl rfl (fun _ => ?_)
          refine yi_D_run 1 (93, [(2, .inl (nm (tk_Vs s n0 0) - 8)), (1, .inl f7), (0, .inr (.inr (some 10)))], [.inr (.inr (some 10)), .inl (I8 11 3), .inl 0, .inr (.inr (some 19)), .inr (.inr (some 34))], (I8, L9, R10, Y), 0, 0) (fun _ => rfl) ?_
          have r27 : R10 10 10 = some 60 := by rw [fr12.2.2 10 10 (by omega), (at_r hA (j := 10) rfl)]
          refine yi_D_gr (v := some 60) rfl rfl rfl r27 (fun _ => ?_)
          have hnw : ¬ (ld (11 + 2 * (nm (tk_Vs s n0 0) - 8).toNat) = 4 ∧ cs0.any isnm = true) := by
            intro ⟨z1, z2⟩
            first | exact absurd z1 (by assumption) | (have w9 : (if cs0.any isnm = true then (1 : Int) else 0) = 0 := by assumption); rw [if_pos z2] at w9; omega
          obtain ⟨kd, hkd⟩ : ∃ kd, kd = ld (11 + 2 * (nm (tk_Vs s n0 0) - 8).toNat) := ⟨_, rfl⟩
          rw [← hkd] at u1 u3 u4 hnw
          have hwt := wtl_sat (kd := kd) hnw
          have hm2 : (sat kd).length ≤ 1 := by unfold sat; split <;> simp
          have hcd1 : ∀ k, k < cs0.length → I8 19 k = (((I8 19 k).toNat : Nat) : Int) := fun k hk => by
            have h0 : 0 ≤ I8 19 k := by rw [u3 k hk]; exact trF_nn
            omega
          have hcd : ∀ k, k < cs0.length + (sat kd).length → I8 19 k = (((I8 19 k).toNat : Nat) : Int) := fun k hk => by
            by_cases c : k < cs0.length
            · exact hcd1 k c
            · have z := u4 (k - cs0.length) (by omega)
              rw [show cs0.length + (k - cs0.length) = k by omega] at z
              rw [z]
              rfl
          have hprg : prg_S (fun k => (I8 19 k).toNat) n T da2 pe2 ev2 0 (cs0.length + (sat kd).length) (wB da2 pe2 ev2 kd cs0) := by
            rw [← hwt]
            refine prg_1 (prg_W bld hTn wf1 wf2 hz (fun k hk => ?_) (fun k hk => ?_))
            · show (((I8 19 (0 + k)).toNat : Nat) : Int) = _
              rw [Nat.zero_add, ← hcd1 k hk]
              exact u3 k hk
            · rw [hwt] at hk ⊢
              show (I8 19 (0 + cs0.length + k)).toNat = _
              rw [Nat.zero_add, u4 k hk]
              rfl
          have hy3 : wy_S R10 Y := lc_wy hy (fun i => fr12.2.2 39 i (by omega)) (fun i => fr12.2.2 40 i (by omega)) (fun f h1 h2 => fr12.2.2 f 0 (by omega)) (Nat.le_refl _) (fun _ _ => ⟨rfl, rfl⟩)
          have h343 : I8 34 2 = (T : Int) ∧ I8 34 7 = (da2 : Int) ∧ I8 34 8 = (pe2 : Int) ∧ I8 34 9 = (n : Int) := ⟨(hF3.1 34 2 (by omega) (by unfold tf_I; omega)).trans hc34.1, (hF3.1 34 7 (by omega) (by unfold tf_I; omega)).trans hc34.2.1, (hF3.1 34 8 (by omega) (by unfold tf_I; omega)).trans hc34.2.2.1, (hF3.1 34 9 (by omega) (by unfold tf_I; omega)).trans hc34.2.2.2⟩
          have h603 : ∃ c, R10 60 0 = some c := by obtain ⟨c6, e6⟩ := hc60; exact ⟨c6, (fr12.2.2 60 0 (by omega)).trans e6⟩
          refine yi_D_callv rfl (p_solve60 hD3.1 hK3 hy3 h343 hnT hbw (m := cs0.length + (sat kd).length) u1 (by omega) h603 hcd hprg) ?_
          rintro _ ⟨I28, L29, R30, Y31, n32, m33, c34, d35, rfl, e36, z37, b38, k39, fL40⟩
          have fR41 : ∀ p k, p < 110 ∧ ¬ p = 60 → R30 p k = R10 p k := fun p k h => (z37.2.1 p k (by omega)).2 (by omega)
          have hN4 := z37.2.2.1.1
          have hY4 := z37.2.2.1.2
          have hw60 : rw_S I28 R30 Y31 60 d35 n := by
            obtain ⟨⟨w1, w2, w3, w4, w5, w6⟩, -, -, -⟩ := id z37
            exact ⟨⟨by omega, w4, by omega, w5, (hY4 60 (by omega)).1.trans (at_k hA (j := 12) rfl), w6⟩, w1, w2, w3, by omega⟩
          obtain ⟨w1, wf, wc⟩ : R30 60 0 = some d35 ∧ (∀ q k, q < Y.2.2 → (¬ (q = 60 ∧ k = 1) → I28 q k = I8 q k) ∧ (¬ (q = 60 ∧ k = 0) → R30 q k = R10 q k)) ∧ (d35 = c34 ∨ Y.2.2 ≤ d35) := ⟨z37.1.1, z37.2.1, by rcases z37.2.2.2 with ⟨x, -⟩ | ⟨x, -⟩ <;> omega⟩
          have hF4 : tf_F I8 L9 R10 Y I28 L29 R30 Y31 := ⟨fun x k hx h => by unfold tf_I at h; exact (wf x k hx).1 (by omega), fun x k hx h => by
            unfold tf_L at h
            exact fL40 x k hx (fun e => by rcases wc with y | y; exact h (Or.inr (Or.inr (Or.inr (by rw [e36, e, y])))); omega) (fun e => h (Or.inr (Or.inr (Or.inl e))))
            , fun x k hx h => by unfold tf_R at h; exact (wf x k hx).2 (by omega), hN4, hY4⟩
          have hD4 := lz_fr hD3 hq58 hF4 (fun x e => by
            rw [w1] at e
            cases e
            rcases wc with y | y
            · exact Or.inl (by rw [e36, y])
            · exact Or.inr y)
          have hL4 := hD4.2.1
          have hc46 : ¬ c = d35 := fun e => hD4.2.2.2.2.2.2.2.2 (by rw [w1, e])
          show yi_D zi_Ms d zi_m180 k (99, [(2, .inl (nm (tk_Vs s n0 0) - 8)), (1, .inl f7), (0, .inr (.inr (some 10)))], [], (I28, L29, R30, Y31), (0 + n32), (0 + m33)) _
          refine yi_D_run 1 (100, [(2, .inl (nm (tk_Vs s n0 0) - 8)), (1, .inl f7), (0, .inr (.inr (some 10)))], [.inr (.inr (some 10))], (I28, L29, R30, Y31), (0 + n32), (0 + m33)) (fun _ => rfl) ?_
          have r42 : R30 10 9 = some 58 := by rw [fR41 10 9 (by omega), fr12.2.2 10 9 (by omega), (at_r hA (j := 9) rfl)]
          refine yi_D_gr (v := some 58) rfl rfl rfl r42 (fun _ => ?_)
          refine yi_D_run 1 (104, [(2, .inl (nm (tk_Vs s n0 0) - 8)), (1, .inl f7), (0, .inr (.inr (some 10)))], [.inr (.inr (some 10)), .inr (.inr (some 58))], (I28, L29, R30, Y31), (0 + n32), (0 + m33)) (fun _ => rfl) ?_
          have r43 : R30 10 10 = some 60 := by rw [fR41 10 10 (by omega), fr12.2.2 10 10 (by omega), (at_r hA (j := 10) rfl)]
          refine yi_D_gr (v := some 60) rfl rfl rfl r43 (fun _ => ?_)
          refine yi_D_callv rfl (p_sizeWith hL4.1 hw60) ?_
          rintro _ rfl
          show yi_D zi_Ms d zi_m180 k (110, [(2, .inl (nm (tk_Vs s n0 0) - 8)), (1, .inl f7), (0, .inr (.inr (some 10)))], [.inl (ym_ct (fun k => yi_land (L29 c k) (L29 d35 k)) n)], (I28, L29, R30, Y31), (0 + n32), (0 + m33)) _
          refine yi_D_run 2 (112, [(3, .inl (ym_ct (fun k => yi_land (L29 c k) (L29 d35 k)) n)), (2, .inl (nm (tk_Vs s n0 0) - 8)), (1, .inl f7), (0, .inr (.inr (some 10)))], [.inl (ym_ct (fun k => yi_land (L29 c k) (L29 d35 k)) n)], (I28, L29, R30, Y31), (0 + n32), (0 + m33)) (fun _ => rfl) ?_
          by_cases h44 : (ym_ct (fun k => yi_land (L29 c k) (L29 d35 k)) n) = 0
          · refine yi_D_if1 false rfl (yi_ne_f h44) ?_
            refine yi_D_run 1 (116, [(3, .inl (ym_ct (fun k => yi_land (L29 c k) (L29 d35 k)) n)), (2, .inl (nm (tk_Vs s n0 0) - 8)), (1, .inl f7), (0, .inr (.inr (some 10)))], [.inl (-1)], (I28, L29, R30, Y31), (0 + n32), (0 + m33)) (fun _ => rfl) ?_
            refine yi_D_reti rfl ?_
            have hsp0 : sy_F (tk_Ks s n0) (tk_Ps s n0) (tk_Vs s n0) ld nm 0 := (show f7 = 0 by omega) ▸ sp11
            have hrb : rr_b n T (wB da2 pe2 ev2 kd cs0) (fun k => L29 d35 k) := ⟨fun k hk => k39 k hk, fun x hx => b38 x hx⟩
            have hmm : ym_ct (fun k => yi_land (L29 c k) (L29 d35 k)) n = ym_ct (fun k => yi_land (l k) ((fun k => L29 d35 k) k)) n := ym_ct_c n (fun k hk => by rw [hL4.2.1 k hk])
            exact ⟨_, _, _, _, _, _, _, rfl, Or.inr ⟨hsp0, a0, cs0, ⟨sp0, k59, k00⟩, ⟨k3, nm8⟩, hlen0, Or.inr (Or.inr ⟨by omega, hkd ▸ hnw, (fun k => L29 d35 k), hkd ▸ hrb, Or.inl ⟨by rw [← hmm]; assumption, rfl, hD4⟩⟩)⟩⟩
          · refine yi_D_if1 true rfl (yi_ne_t h44) ?_
            refine yi_D_run 1 (118, [(3, .inl (ym_ct (fun k => yi_land (L29 c k) (L29 d35 k)) n)), (2, .inl (nm (tk_Vs s n0 0) - 8)), (1, .inl f7), (0, .inr (.inr (some 10)))], [.inr (.inr (some 10))], (I28, L29, R30, Y31), (0 + n32), (0 + m33)) (fun _ => rfl) ?_
            have hkq := (p_kindOfQ (d := 0) hq3 hq20 nm8).1
            obtain ⟨ps, e17, hps, e18, hu16, -⟩ := hD4.2.2.2.1.1
            have hp0 : ∀ pb, R30 56 ((ps + u) % 16) = some pb → sy_T R30 Y31 pb ∧ 110 ≤ pb := fun pb hpb => by
              have z := hD4.2.2.2.1.2.1 ((ps + u) % 16) (Nat.mod_lt _ (by omega)) pb hpb
              exact ⟨z.1, z.2.1⟩
            refine yi_D_callv rfl ((yi_P_a (p_remC hD4.1 hD4.2.1 hD4.2.2.1 hD4.2.2.2.1 hD4.2.2.2.2.1 ⟨by omega, by omega, by omega, hSo.1, hSo.2.1⟩) (p_remember hD4.1.1.1 e17 e18 hps hu16 rfl hp0))) ?_
            rintro _ ⟨⟨I45, L46, R47, Y48, n49, m50, rfl, W51, O52, T53, P54, A55, K56, q57⟩, ⟨J58, M59, S60, Z61, n262, m263, p64, eq65, r166, r267, r368, r469, ⟨r570, r671⟩, r772, r873, rN74, rY75⟩⟩
            have b176 : I45 = J58 := congrArg (fun z : yi_R => z.2.1.1) eq65
            have b277 : L46 = M59 := congrArg (fun z : yi_R => z.2.1.2.1) eq65
            have b378 : R47 = S60 := congrArg (fun z : yi_R => z.2.1.2.2.1) eq65
            have b479 : Y48 = Z61 := congrArg (fun z : yi_R => z.2.1.2.2.2) eq65
            subst b176 b277 b378 b479
            have hA5 := W51.1.1
            have hN5 := rN74
            have hY5 := rY75
            have out5 : ∀ x, x < Y31.2.2 → ¬ Y31.1 x = 9 ∧ ¬ Y31.1 x = 26 ∧ ¬ Y31.1 x = 20 → ¬ (p64 ≤ x ∧ x ≤ p64 + 5) := fun x hx hk => sy_no r267 (by rw [(rY75 x hx).1]; exact hk)
            have hA4 := hD4.1.1.1
            have k604 : Y31.1 60 = 5 := at_k hA4 (j := 12) rfl
            have k624 : Y31.1 62 = 5 := at_k hA4 (j := 13) rfl
            have k414 : Y31.1 41 = 5 := at_k hA4 (j := 6) rfl
            have k464 : Y31.1 46 = 7 := at_k hA4 (j := 8) rfl
            have s5 : ∀ x k, (x = 60 ∨ x = 62 ∨ x = 41 ∨ x = 46) → I45 x k = I28 x k ∧ R47 x k = R30 x k := fun x k hx => by
              have o := out5 x (by omega) (by rcases hx with rfl | rfl | rfl | rfl <;> omega)
              exact ⟨(r772 x k (by omega) o).1 (by omega), (r772 x k (by omega) o).2 (by omega)⟩
            have hqs5 : ∀ x, qs_S R47 x → qs_S R30 x := fun x h => by
              unfold qs_S at h ⊢
              rw [(s5 60 0 (by omega)).2, (s5 62 0 (by omega)).2, (s5 41 0 (by omega)).2, (s5 46 1 (by omega)).2] at h
              exact h
            have hD5 : lz_D I45 L46 R47 Y48 pf n da2 pe2 ev2 pr q c (us_n u) A W l S (us_p u U S) M aq := ⟨W51, O52, T53, P54, A55, fun x hx hs => hD4.2.2.2.2.2.1 x hx (hqs5 x hs), hD4.2.2.2.2.2.2.1, hD4.2.2.2.2.2.2.2.1, fun e => hD4.2.2.2.2.2.2.2.2 (by rw [← (s5 60 0 (by omega)).2]; exact e)⟩
            have hw605 := rw_S_t hw60 (s5 60 1 (by omega)).1 (s5 60 0 (by omega)).2 rN74 rY75
            have hd6L : ∀ k, L46 d35 k = L29 d35 k := fun k => r873 d35 k hw60.1.2.2.2.1
            have hppn : ¬ (p64 ≤ pp ∧ pp ≤ p64 + 5) := by
              rcases r469 with ⟨e, -⟩ | ⟨-, e, -⟩
              · have e0 : R 56 ((ps + u) % 16) = some p64 := by rw [← fr12.2.2 56 ((ps + u) % 16) (by omega), ← (wf 56 ((ps + u) % 16) (by omega)).2 (by omega)]; exact e
                exact cg_no hcg (hpp pp pp1.1) (hD.2.2.2.1.2.1 _ (Nat.mod_lt _ (by omega)) p64 e0).1 hs9
              · omega
            have hp5 : ∀ k, I45 pp k = I pp k := fun k => ((r772 pp k (by omega) hppn).1 (by omega)).trans (((wf pp k (by omega)).1 (by omega)).trans (hF3.1 pp k (by omega) (by unfold tf_I; omega)))
            have hl5 : Y48.2.1 pp = (tq_px ld csl).length := ((rY75 pp (by omega)).2).trans ((hY4 pp (by omega)).2.trans pp2)
            have h5q : R47 q 12 = some pp := ((q57 12).2).trans (((wf q 12 (by omega)).2 (by omega)).trans ((fr12.2.2 q 12 (by omega)).trans pp1.1))
            have h5s := T53.2.1.1
            have hT5 := T53.1
            show yi_D zi_Ms d zi_m180 k (121, [(3, .inl (ym_ct (fun k => yi_land (L29 c k) (L29 d35 k)) n)), (2, .inl (nm (tk_Vs s n0 0) - 8)), (1, .inl f7), (0, .inr (.inr (some 10)))], [], (I45, L46, R47, Y48), ((0 + n32) + n49), ((0 + m33) + m50)) _
            refine yi_D_run 1 (122, [(3, .inl (ym_ct (fun k => yi_land (L29 c k) (L29 d35 k)) n)), (2, .inl (nm (tk_Vs s n0 0) - 8)), (1, .inl f7), (0, .inr (.inr (some 10)))], [.inr (.inr (some 10))], (I45, L46, R47, Y48), ((0 + n32) + n49), ((0 + m33) + m50)) (fun _ => rfl) ?_
            refine yi_D_gr (v := some 44) rfl rfl rfl (at_r hA5 (j := 3) rfl) (fun _ => ?_)
            refine yi_D_run 1 (126, [(3, .inl (ym_ct (fun k => yi_land (L29 c k) (L29 d35 k)) n)), (2, .inl (nm (tk_Vs s n0 0) - 8)), (1, .inl f7), (0, .inr (.inr (some 10)))], [.inr (.inr (some 10)), .inr (.inr (some 44))], (I45, L46, R47, Y48), ((0 + n32) + n49), ((0 + m33) + m50)) (fun _ => rfl) ?_
            refine yi_D_gr (v := some q) rfl rfl rfl hD5.1.2.1.1 (fun _ => ?_)
            refine yi_D_gr (v := some pp) rfl rfl (Nat.ble_eq_true_of_le (by omega)) h5q (fun _ => ?_)
            refine yi_D_run 1 (133, [(3, .inl (ym_ct (fun k => yi_land (L29 c k) (L29 d35 k)) n)), (2, .inl (nm (tk_Vs s n0 0) - 8)), (1, .inl f7), (0, .inr (.inr (some 10)))], [.inr (.inr (some 10)), .inr (.inr (some pp)), .inr (.inr (some 44))], (I45, L46, R47, Y48), ((0 + n32) + n49), ((0 + m33) + m50)) (fun _ => rfl) ?_
            refine yi_D_gr (v := some 58) rfl rfl rfl (at_r hA5 (j := 9) rfl) (fun _ => ?_)
            refine yi_D_callv rfl (p_size hD5.2.1.1) ?_
            rintro _ rfl
            show yi_D zi_Ms d zi_m180 k (139, [(3, .inl (ym_ct (fun k => yi_land (L29 c k) (L29 d35 k)) n)), (2, .inl (nm (tk_Vs s n0 0) - 8)), (1, .inl f7), (0, .inr (.inr (some 10)))], [.inl (ym_ct (fun k => yi_land (L46 c k) (L46 c k)) n), .inr (.inr (some pp)), .inr (.inr (some 44))], (I45, L46, R47, Y48), ((0 + n32) + n49), ((0 + m33) + m50)) _
            refine yi_D_run 2 (141, [(3, .inl (ym_ct (fun k => yi_land (L29 c k) (L29 d35 k)) n)), (2, .inl (nm (tk_Vs s n0 0) - 8)), (1, .inl f7), (0, .inr (.inr (some 10)))], [.inr (.inr (some 10)), .inl (ym_ct (fun k => yi_land (L29 c k) (L29 d35 k)) n), .inl (ym_ct (fun k => yi_land (L46 c k) (L46 c k)) n), .inr (.inr (some pp)), .inr (.inr (some 44))], (I45, L46, R47, Y48), ((0 + n32) + n49), ((0 + m33) + m50)) (fun _ => rfl) ?_
            refine yi_D_gr (v := some 50) rfl rfl rfl (at_r hA5 (j := 6) rfl) (fun _ => ?_)
            refine yi_D_gi (v := (S.1.1 : Int)) rfl rfl rfl h5s (fun _ => ?_)
            have hpz := tq_b (be := ym_ct (fun k => yi_land (L46 c k) (L46 c k)) n) (af := ym_ct (fun k => yi_land (L29 c k) (L29 d35 k)) n) (to := (S.1.1 : Int)) (px := tq_px ld csl)
            refine yi_D_callv rfl (p_priceL hA5 (P := pp) (px := tq_px ld csl) ⟨by omega, by omega, hl5, hpx.2.2⟩ (fun k hk => by rw [hp5 k]; exact pp3 k hk) hpx.1 hpx.2.1) ?_
            rintro _ ⟨I80, rfl, f81⟩
            show yi_D zi_Ms d zi_m180 k (150, [(3, .inl (ym_ct (fun k => yi_land (L29 c k) (L29 d35 k)) n)), (2, .inl (nm (tk_Vs s n0 0) - 8)), (1, .inl f7), (0, .inr (.inr (some 10)))], [.inl (tq_p (ym_ct (fun k => yi_land (L46 c k) (L46 c k)) n) (ym_ct (fun k => yi_land (L29 c k) (L29 d35 k)) n) (S.1.1 : Int) (tq_px ld csl))], (I80, L46, R47, Y48), ((0 + n32) + n49), ((0 + m33) + m50)) _
            refine yi_D_run 2 (153, [(4, .inl (tq_p (ym_ct (fun k => yi_land (L46 c k) (L46 c k)) n) (ym_ct (fun k => yi_land (L29 c k) (L29 d35 k)) n) (S.1.1 : Int) (tq_px ld csl))), (3, .inl (ym_ct (fun k => yi_land (L29 c k) (L29 d35 k)) n)), (2, .inl (nm (tk_Vs s n0 0) - 8)), (1, .inl f7), (0, .inr (.inr (some 10)))], [.inr (.inr (some 10))], (I80, L46, R47, Y48), ((0 + n32) + n49), ((0 + m33) + m50)) (fun _ => rfl) ?_
            refine yi_D_gr (v := some 50) rfl rfl rfl (at_r hA5 (j := 6) rfl) (fun _ => ?_)
            refine yi_D_new3 rfl (fun q82 I83 L84 R85 Y86 m87 mk88 mn89 ml90 my91 => ?_)
            obtain ⟨k92, k93, k94, k95, k96, k97⟩ := mk88
            have q82q : q82 = Y48.2.2 := k92
            have q82n := k97
            refine yi_D_run 5 (165, [(4, .inl (tq_p (ym_ct (fun k => yi_land (L46 c k) (L46 c k)) n) (ym_ct (fun k => yi_land (L29 c k) (L29 d35 k)) n) (S.1.1 : Int) (tq_px ld csl))), (3, .inl (ym_ct (fun k => yi_land (L29 c k) (L29 d35 k)) n)), (2, .inl (nm (tk_Vs s n0 0) - 8)), (1, .inl f7), (0, .inr (.inr (some 10)))], [.inr (.inr (some 10)), .inl (ym_ct (fun k => yi_land (L29 c k) (L29 d35 k)) n), .inl (tq_p (ym_ct (fun k => yi_land (L46 c k) (L46 c k)) n) (ym_ct (fun k => yi_land (L29 c k) (L29 d35 k)) n) (S.1.1 : Int) (tq_px ld csl)), .inl (nm (tk_Vs s n0 0) - 8), .inr (.inr (some q82)), .inr (.inr (some q82)), .inr (.inr (some 50))], (I83, L84, R85, Y86), (((0 + n32) + n49) + 1), m87) (fun _ => rfl) ?_
            have r98 : R85 10 10 = some 60 := by rw [(fun p k hp => (k93 p k hp).2.2) 10 10 (by omega), (at_r hA5 (j := 10) rfl)]
            refine yi_D_gr (v := some 60) rfl rfl rfl r98 (fun _ => ?_)
            have hyN : q82 = Y48.2.2 := k92
            have hY7 : ∀ x, x < Y48.2.2 → Y86.1 x = Y48.1 x ∧ Y86.2.1 x = Y48.2.1 x := fun x hx => k95 x (by omega)
            have hN7 : Y86.2.2 = q82 + 1 := k97
            have hw607 : rw_S I83 R85 Y86 60 d35 n := rw_S_t hw605 ((k93 60 1 (by omega)).1.trans (f81 60 1 (by omega))) (k93 60 0 (by omega)).2.2 (by omega) hY7
            refine yi_D_callv rfl (p_copyOut hw607 (by omega)) ?_
            rintro _ ⟨I99, L100, R101, Y102, n103, m104, p105, c106, rfl, ep107, lc108, w109, v110, fr111, N112, Yk113, new114, N3115⟩
            show yi_D zi_Ms d zi_m180 k (171, [(4, .inl (tq_p (ym_ct (fun k => yi_land (L46 c k) (L46 c k)) n) (ym_ct (fun k => yi_land (L29 c k) (L29 d35 k)) n) (S.1.1 : Int) (tq_px ld csl))), (3, .inl (ym_ct (fun k => yi_land (L29 c k) (L29 d35 k)) n)), (2, .inl (nm (tk_Vs s n0 0) - 8)), (1, .inl f7), (0, .inr (.inr (some 10)))], [.inr (.inr (some p105)), .inl (ym_ct (fun k => yi_land (L29 c k) (L29 d35 k)) n), .inl (tq_p (ym_ct (fun k => yi_land (L46 c k) (L46 c k)) n) (ym_ct (fun k => yi_land (L29 c k) (L29 d35 k)) n) (S.1.1 : Int) (tq_px ld csl)), .inl (nm (tk_Vs s n0 0) - 8), .inr (.inr (some q82)), .inr (.inr (some q82)), .inr (.inr (some 50))], (I99, L100, R101, Y102), ((((0 + n32) + n49) + 1) + n103), (m87 + m104)) _
            refine yi_D_callp rfl rfl (p_initSaying (by omega)) ?_
            rintro _ ⟨I116, R117, rfl, v118, r3119, fi120, fr121⟩
            have hF9 : tf_F I45 L46 R47 Y48 I116 L100 R117 Y102 := ⟨fun x k hx h => by unfold tf_I at h; exact (fi120 x k (by omega)).trans ((fr111 x k (by omega)).1.trans ((k93 x k (by omega)).1.trans (f81 x k (by omega)))), fun x k hx h => (fr111 x k (by omega)).2.1.trans (k93 x k (by omega)).2.1, fun x k hx h => (fr121 x k (by omega)).trans ((fr111 x k (by omega)).2.2.trans (k93 x k (by omega)).2.2), by omega, fun x hx => ⟨(Yk113 x (by omega)).1.trans (hY7 x hx).1, (Yk113 x (by omega)).2.trans (hY7 x hx).2⟩⟩
            have e609 : R117 60 0 = some d35 := (fr121 60 0 (by omega)).trans ((fr111 60 0 (by omega)).2.2.trans ((k93 60 0 (by omega)).2.2.trans hw605.2.1))
            have hD9 := lz_fr hD5 hq58 hF9 (fun x e => Or.inl (by rw [e609] at e; rw [← e]; exact hw605.2.1))
            have hT9 := hD9.2.2.1.1
            have hs9t := hD9.2.2.1.2.1.1
            have hpu9 := hD9.2.2.1.2.2.1
            show yi_D zi_Ms d zi_m180 k (174, [(4, .inl (tq_p (ym_ct (fun k => yi_land (L46 c k) (L46 c k)) n) (ym_ct (fun k => yi_land (L29 c k) (L29 d35 k)) n) (S.1.1 : Int) (tq_px ld csl))), (3, .inl (ym_ct (fun k => yi_land (L29 c k) (L29 d35 k)) n)), (2, .inl (nm (tk_Vs s n0 0) - 8)), (1, .inl f7), (0, .inr (.inr (some 10)))], [.inr (.inr (some q82)), .inr (.inr (some 50))], (I116, L100, R117, Y102), ((((0 + n32) + n49) + 1) + n103), (m87 + m104)) _
            refine yi_D_callv rfl (p_addSaying hT9 (t := S.1.1) hs9t (by omega)) ?_
            rintro _ ⟨I122, R123, rfl, e6124, e5125, fi126, fr127⟩
            have hT10 : sy_T R123 Y102 50 := sy_T_t hT9 (fun k _ => fr127 50 k (by omega)) (Nat.le_refl _) (fun _ _ => ⟨rfl, rfl⟩)
            have hA10 : at_T R123 Y102 := at_T_t hD9.1.1.1 (fun x hx => by have b : ∀ x ∈ at_L, ¬ x.1 = 51 := (by decide +kernel); exact fr127 _ _ (fun e => b x hx e.1)) (Nat.le_refl _) (fun _ _ => ⟨rfl, rfl⟩)
            show yi_D zi_Ms d zi_m180 k (177, [(4, .inl (tq_p (ym_ct (fun k => yi_land (L46 c k) (L46 c k)) n) (ym_ct (fun k => yi_land (L29 c k) (L29 d35 k)) n) (S.1.1 : Int) (tq_px ld csl))), (3, .inl (ym_ct (fun k => yi_land (L29 c k) (L29 d35 k)) n)), (2, .inl (nm (tk_Vs s n0 0) - 8)), (1, .inl f7), (0, .inr (.inr (some 10)))], [], (I122, L100, R123, Y102), ((((0 + n32) + n49) + 1) + n103), (m87 + m104)) _
            refine yi_D_run 1 (178, [(4, .inl (tq_p (ym_ct (fun k => yi_land (L46 c k) (L46 c k)) n) (ym_ct (fun k => yi_land (L29 c k) (L29 d35 k)) n) (S.1.1 : Int) (tq_px ld csl))), (3, .inl (ym_ct (fun k => yi_land (L29 c k) (L29 d35 k)) n)), (2, .inl (nm (tk_Vs s n0 0) - 8)), (1, .inl f7), (0, .inr (.inr (some 10)))], [.inr (.inr (some 10))], (I122, L100, R123, Y102), ((((0 + n32) + n49) + 1) + n103), (m87 + m104)) (fun _ => rfl) ?_
            refine yi_D_gr (v := some 50) rfl rfl rfl (at_r hA10 (j := 6) rfl) (fun _ => ?_)
            refine yi_D_run 2 (184, [(4, .inl (tq_p (ym_ct (fun k => yi_land (L46 c k) (L46 c k)) n) (ym_ct (fun k => yi_land (L29 c k) (L29 d35 k)) n) (S.1.1 : Int) (tq_px ld csl))), (3, .inl (ym_ct (fun k => yi_land (L29 c k) (L29 d35 k)) n)), (2, .inl (nm (tk_Vs s n0 0) - 8)), (1, .inl f7), (0, .inr (.inr (some 10)))], [.inl (tq_p (ym_ct (fun k => yi_land (L46 c k) (L46 c k)) n) (ym_ct (fun k => yi_land (L29 c k) (L29 d35 k)) n) (S.1.1 : Int) (tq_px ld csl)), .inl (nm (tk_Vs s n0 0) - 8), .inr (.inr (some 50))], (I122, L100, R123, Y102), ((((0 + n32) + n49) + 1) + n103), (m87 + m104)) (fun _ => rfl) ?_
            have hpj : I122 52 (nm (tk_Vs s n0 0) - 8).toNat = S.2.2.2.1 (nm (tk_Vs s n0 0) - 8).toNat := (fi126 52 _ (by omega)).trans (hpu9 (nm (tk_Vs s n0 0) - 8).toNat (by omega))
            have hpb := hSo.2.2 (nm (tk_Vs s n0 0) - 8).toNat (by omega)
            refine yi_D_callv rfl (p_pay hT10 ⟨by omega, by omega⟩ ⟨by rw [hpj]; exact hpb.1, by rw [hpj]; exact hpb.2, hpz.1, hpz.2⟩) ?_
            rintro _ ⟨I128, rfl, e129, f130⟩
            show yi_D zi_Ms d zi_m180 k (187, [(4, .inl (tq_p (ym_ct (fun k => yi_land (L46 c k) (L46 c k)) n) (ym_ct (fun k => yi_land (L29 c k) (L29 d35 k)) n) (S.1.1 : Int) (tq_px ld csl))), (3, .inl (ym_ct (fun k => yi_land (L29 c k) (L29 d35 k)) n)), (2, .inl (nm (tk_Vs s n0 0) - 8)), (1, .inl f7), (0, .inr (.inr (some 10)))], [], (I128, L100, R123, Y102), ((((0 + n32) + n49) + 1) + n103), (m87 + m104)) _
            refine yi_D_run 1 (188, [(4, .inl (tq_p (ym_ct (fun k => yi_land (L46 c k) (L46 c k)) n) (ym_ct (fun k => yi_land (L29 c k) (L29 d35 k)) n) (S.1.1 : Int) (tq_px ld csl))), (3, .inl (ym_ct (fun k => yi_land (L29 c k) (L29 d35 k)) n)), (2, .inl (nm (tk_Vs s n0 0) - 8)), (1, .inl f7), (0, .inr (.inr (some 10)))], [.inr (.inr (some 10))], (I128, L100, R123, Y102), ((((0 + n32) + n49) + 1) + n103), (m87 + m104)) (fun _ => rfl) ?_
            refine yi_D_gr (v := some 58) rfl rfl rfl (at_r hA10 (j := 9) rfl) (fun _ => ?_)
            refine yi_D_run 1 (192, [(4, .inl (tq_p (ym_ct (fun k => yi_land (L46 c k) (L46 c k)) n) (ym_ct (fun k => yi_land (L29 c k) (L29 d35 k)) n) (S.1.1 : Int) (tq_px ld csl))), (3, .inl (ym_ct (fun k => yi_land (L29 c k) (L29 d35 k)) n)), (2, .inl (nm (tk_Vs s n0 0) - 8)), (1, .inl f7), (0, .inr (.inr (some 10)))], [.inr (.inr (some 10)), .inr (.inr (some 58))], (I128, L100, R123, Y102), ((((0 + n32) + n49) + 1) + n103), (m87 + m104)) (fun _ => rfl) ?_
            refine yi_D_gr (v := some 60) rfl rfl rfl (at_r hA10 (j := 10) rfl) (fun _ => ?_)
            have eI : ∀ x k, ¬ (x = 50 ∧ k = 6) → ¬ (x = 52 ∧ k = (nm (tk_Vs s n0 0) - 8).toNat) → I128 x k = I116 x k := fun x k h1 h2 => (f130 x k h2).trans (fi126 x k h1)
            have hw58 : rw_S I128 R123 Y102 58 c n := rw_S_t hD9.2.1.1 (eI 58 1 (by omega) (by omega)) (fr127 58 0 (by omega)) (Nat.le_refl _) (fun _ _ => ⟨rfl, rfl⟩)
            have hw609 : rw_S I128 R123 Y102 60 d35 n := rw_S_t (rw_S_t hw607 (fi120 60 1 (by omega) |>.trans (fr111 60 1 (by omega)).1) (fr121 60 0 (by omega) |>.trans (fr111 60 0 (by omega)).2.2) N112 Yk113) (eI 60 1 (by omega) (by omega)) (fr127 60 0 (by omega)) (Nat.le_refl _) (fun _ _ => ⟨rfl, rfl⟩)
            refine yi_D_callv rfl (p_keep hw58 hw609) ?_
            rintro _ ⟨L131, rfl, v132, f133⟩
            show yi_D zi_Ms d zi_m180 k (198, [(4, .inl (tq_p (ym_ct (fun k => yi_land (L46 c k) (L46 c k)) n) (ym_ct (fun k => yi_land (L29 c k) (L29 d35 k)) n) (S.1.1 : Int) (tq_px ld csl))), (3, .inl (ym_ct (fun k => yi_land (L29 c k) (L29 d35 k)) n)), (2, .inl (nm (tk_Vs s n0 0) - 8)), (1, .inl f7), (0, .inr (.inr (some 10)))], [], (I128, L131, R123, Y102), ((((0 + n32) + n49) + 1) + n103), (m87 + m104)) _
            refine yi_D_run 1 (199, [(4, .inl (tq_p (ym_ct (fun k => yi_land (L46 c k) (L46 c k)) n) (ym_ct (fun k => yi_land (L29 c k) (L29 d35 k)) n) (S.1.1 : Int) (tq_px ld csl))), (3, .inl (ym_ct (fun k => yi_land (L29 c k) (L29 d35 k)) n)), (2, .inl (nm (tk_Vs s n0 0) - 8)), (1, .inl f7), (0, .inr (.inr (some 10)))], [.inl 0], (I128, L131, R123, Y102), ((((0 + n32) + n49) + 1) + n103), (m87 + m104)) (fun _ => rfl) ?_
            refine yi_D_reti rfl ?_
            have hsp0 : sy_F (tk_Ks s n0) (tk_Ps s n0) (tk_Vs s n0) ld nm 0 := (show f7 = 0 by omega) ▸ sp11
            have hrb : rr_b n T (wB da2 pe2 ev2 kd cs0) (fun k => L29 d35 k) := ⟨fun k hk => k39 k hk, fun x hx => b38 x hx⟩
            have hmm : ym_ct (fun k => yi_land (L29 c k) (L29 d35 k)) n = ym_ct (fun k => yi_land (l k) ((fun k => L29 d35 k) k)) n := ym_ct_c n (fun k hk => by rw [hL4.2.1 k hk])
            have hbe : ym_ct (fun k => yi_land (L46 c k) (L46 c k)) n = ym_ct (fun k => yi_land (l k) (l k)) n := ym_ct_c n (fun k hk => by rw [hD5.2.1.2.1 k hk])
            have hbd : ∀ x k z, x < Y.2.2 → R x k = some z → z < Y.2.2 := fun x k z hx e => ((hK I L).1 x k z hx e).1
            have rr9 : ∀ x k, (x = 62 ∨ x = 41 ∨ x = 46) → R117 x k = R x k := fun x k hx => (hF9.2.2.1 x k (by omega) (by unfold tf_R; omega)).trans (((s5 x k (by omega)).2).trans (((wf x k (by omega)).2 (by omega)).trans (fr12.2.2 x k (by omega))))
            have hnq : ∀ x, Y48.2.2 ≤ x → ¬ qs_S R117 x := fun x hx hs => by
              unfold qs_S at hs
              rcases hs with z | z | z | z | z | z
              · omega
              · omega
              · rw [e609] at z; cases z; have := hw605.1.2.2.2.1; omega
              · rw [rr9 62 0 (by omega)] at z; have := hbd 62 0 x (by omega) z; omega
              · rw [rr9 41 0 (by omega)] at z; have := hbd 41 0 x (by omega) z; omega
              · rw [rr9 46 1 (by omega)] at z; have := hbd 46 1 x (by omega) z; omega
            have hcN5 := hD5.2.1.1.1.2.2.2.1
            have hd5N := hw605.1.2.2.2.1
            have hrw9 : rw_S I116 R117 Y102 p105 c106 n := rw_S_t w109 (fi120 _ 1 (by omega)) (fr121 _ 0 (by omega)) (Nat.le_refl _) (fun _ _ => ⟨rfl, rfl⟩)
            have hv9 : ∀ k, k < n → L100 c106 k = (fun k => L29 d35 k) k := fun k hk => (v110 k hk).trans (((k93 _ k (by omega)).2.1).trans (hd6L k))
            obtain ⟨pf2, hm2, hD12⟩ := lz_tell (I' := I128) (L' := L131) (R' := R123) (f := p105) (c2 := c106) (y := q82) (r := (fun k => L29 d35 k)) (t := nm (tk_Vs s n0 0) - 8) (pz := (if 99999 < S.2.2.2.1 (nm (tk_Vs s n0 0) - 8).toNat + tq_p (ym_ct (fun k => yi_land (L46 c k) (L46 c k)) n) (ym_ct (fun k => yi_land (L29 c k) (L29 d35 k)) n) (S.1.1 : Int) (tq_px ld csl) then 99999 else S.2.2.2.1 (nm (tk_Vs s n0 0) - 8).toNat + tq_p (ym_ct (fun k => yi_land (L46 c k) (L46 c k)) n) (ym_ct (fun k => yi_land (L29 c k) (L29 d35 k)) n) (S.1.1 : Int) (tq_px ld csl))) hD9 (by omega) hq58 ⟨by omega, by omega⟩ hrw9 hv9 ⟨⟨by omega, by omega, (Yk113 _ (by omega)).1.trans my91⟩, v118, r3119⟩ ⟨hnq _ (by omega), hnq _ (by omega), hnq _ (by omega)⟩ ⟨by omega, by omega, by omega, by omega⟩ ((f130 50 6 (by omega)).trans e6124) (by rw [e129, hpj]) eI e5125 fr127 f133 (fun k hk => by rw [v132 k hk, hD9.2.1.2.1 k hk, (fr111 _ k (by omega)).2.1, (k93 _ k (by omega)).2.1, hd6L k])
            rw [hbe, hmm] at hD12
            exact ⟨_, _, _, _, _, _, _, rfl, Or.inr ⟨hsp0, a0, cs0, ⟨sp0, k59, k00⟩, ⟨k3, nm8⟩, hlen0, Or.inr (Or.inr ⟨by omega, hkd ▸ hnw, (fun k => L29 d35 k), hkd ▸ hrb, Or.inr ⟨by rw [← hmm]; assumption, rfl, pf2, hm2, hD12⟩⟩)⟩⟩
        · refine yi_D_if1 false rfl (yi_eq_f h22) ?_
          refine yi_D_run 1 (72, [(2, .inl (nm (tk_Vs s n0 0) - 8)), (1, .inl f7), (0, .inr (.inr (some 10)))], [.inl (-2)], (I8, L9, R10, Y), 0, 0) (fun _ => rfl) ?_
          refine yi_D_reti rfl ?_
          have hsp0 : sy_F (tk_Ks s n0) (tk_Ps s n0) (tk_Vs s n0) ld nm 0 := (show f7 = 0 by omega) ▸ sp11
          have hany : cs0.any isnm = true := by
            cases b : cs0.any isnm with
            | true => rfl
            | false => simp_all
          exact ⟨_, _, _, _, _, _, _, rfl, Or.inr ⟨hsp0, a0, cs0, ⟨sp0, k59, k00⟩, ⟨k3, nm8⟩, hlen0, Or.inr (Or.inl ⟨by omega, by assumption, hany, rfl, hD3⟩)⟩⟩
      · refine yi_D_if2 true rfl (yi_ne_t h20) ?_
        refine yi_D_run 1 (74, [(2, .inl (nm (tk_Vs s n0 0) - 8)), (1, .inl f7), (0, .inr (.inr (some 10)))], [.inr (.inr (some 10))], (I8, L9, R10, Y), 0, 0) (fun _ => rfl) ?_
        have r134 : R10 10 2 = some 34 := by rw [fr12.2.2 10 2 (by omega), (at_r hA (j := 2) rfl)]
        refine yi_D_gr (v := some 34) rfl rfl rfl r134 (fun _ => ?_)
        refine yi_D_run 1 (78, [(2, .inl (nm (tk_Vs s n0 0) - 8)), (1, .inl f7), (0, .inr (.inr (some 10)))], [.inr (.inr (some 10)), .inr (.inr (some 34))], (I8, L9, R10, Y), 0, 0) (fun _ => rfl) ?_
        have r135 : R10 10 0 = some 11 := by rw [fr12.2.2 10 0 (by omega), (at_r hA (j := 0) rfl)]
        refine yi_D_gr (v := some 11) rfl rfl rfl r135 (fun _ => ?_)
        have r136 : R10 11 2 = some 19 := by rw [fr12.2.2 11 2 (by omega), (at_r hA (j := 18) rfl)]
        refine yi_D_gr (v := some 19) rfl rfl rfl r136 (fun _ => ?_)
        refine yi_D_run 2 (86, [(2, .inl (nm (tk_Vs s n0 0) - 8)), (1, .inl f7), (0, .inr (.inr (some 10)))], [.inr (.inr (some 10)), .inl 0, .inr (.inr (some 19)), .inr (.inr (some 34))], (I8, L9, R10, Y), 0, 0) (fun _ => rfl) ?_
        have r137 : R10 10 0 = some 11 := by rw [fr12.2.2 10 0 (by omega), (at_r hA (j := 0) rfl)]
        refine yi_D_gr (v := some 11) rfl rfl rfl r137 (fun _ => ?_)
        refine yi_D_gi (v := I8 11 3) rfl rfl rfl rfl (fun _ => ?_)
        refine yi_D_run 1 (93, [(2, .inl (nm (tk_Vs s n0 0) - 8)), (1, .inl f7), (0, .inr (.inr (some 10)))], [.inr (.inr (some 10)), .inl (I8 11 3), .inl 0, .inr (.inr (some 19)), .inr (.inr (some 34))], (I8, L9, R10, Y), 0, 0) (fun _ => rfl) ?_
        have r138 : R10 10 10 = some 60 := by rw [fr12.2.2 10 10 (by omega), (at_r hA (j := 10) rfl)]
        refine yi_D_gr (v := some 60) rfl rfl rfl r138 (fun _ => ?_)
        have hnw : ¬ (ld (11 + 2 * (nm (tk_Vs s n0 0) - 8).toNat) = 4 ∧ cs0.any isnm = true) := by
          intro ⟨z1, z2⟩
          first | exact absurd z1 (by assumption) | (have w9 : (if cs0.any isnm = true then (1 : Int) else 0) = 0 := by assumption); rw [if_pos z2] at w9; omega
        obtain ⟨kd, hkd⟩ : ∃ kd, kd = ld (11 + 2 * (nm (tk_Vs s n0 0) - 8).toNat) := ⟨_, rfl⟩
        rw [← hkd] at u1 u3 u4 hnw
        have hwt := wtl_sat (kd := kd) hnw
        have hm2 : (sat kd).length ≤ 1 := by unfold sat; split <;> simp
        have hcd1 : ∀ k, k < cs0.length → I8 19 k = (((I8 19 k).toNat : Nat) : Int) := fun k hk => by
          have h0 : 0 ≤ I8 19 k := by rw [u3 k hk]; exact trF_nn
          omega
        have hcd : ∀ k, k < cs0.length + (sat kd).length → I8 19 k = (((I8 19 k).toNat : Nat) : Int) := fun k hk => by
          by_cases c : k < cs0.length
          · exact hcd1 k c
          · have z := u4 (k - cs0.length) (by omega)
            rw [show cs0.length + (k - cs0.length) = k by omega] at z
            rw [z]
            rfl
        have hprg : prg_S (fun k => (I8 19 k).toNat) n T da2 pe2 ev2 0 (cs0.length + (sat kd).length) (wB da2 pe2 ev2 kd cs0) := by
          rw [← hwt]
          refine prg_1 (prg_W bld hTn wf1 wf2 hz (fun k hk => ?_) (fun k hk => ?_))
          · show (((I8 19 (0 + k)).toNat : Nat) : Int) = _
            rw [Nat.zero_add, ← hcd1 k hk]
            exact u3 k hk
          · rw [hwt] at hk ⊢
            show (I8 19 (0 + cs0.length + k)).toNat = _
            rw [Nat.zero_add, u4 k hk]
            rfl
        have hy3 : wy_S R10 Y := lc_wy hy (fun i => fr12.2.2 39 i (by omega)) (fun i => fr12.2.2 40 i (by omega)) (fun f h1 h2 => fr12.2.2 f 0 (by omega)) (Nat.le_refl _) (fun _ _ => ⟨rfl, rfl⟩)
        have h343 : I8 34 2 = (T : Int) ∧ I8 34 7 = (da2 : Int) ∧ I8 34 8 = (pe2 : Int) ∧ I8 34 9 = (n : Int) := ⟨(hF3.1 34 2 (by omega) (by unfold tf_I; omega)).trans hc34.1, (hF3.1 34 7 (by omega) (by unfold tf_I; omega)).trans hc34.2.1, (hF3.1 34 8 (by omega) (by unfold tf_I; omega)).trans hc34.2.2.1, (hF3.1 34 9 (by omega) (by unfold tf_I; omega)).trans hc34.2.2.2⟩
        have h603 : ∃ c, R10 60 0 = some c := by obtain ⟨c6, e6⟩ := hc60; exact ⟨c6, (fr12.2.2 60 0 (by omega)).trans e6⟩
        refine yi_D_callv rfl (p_solve60 hD3.1 hK3 hy3 h343 hnT hbw (m := cs0.length + (sat kd).length) u1 (by omega) h603 hcd hprg) ?_
        rintro _ ⟨I139, L140, R141, Y142, n143, m144, c145, d146, rfl, e147, z148, b149, k150, fL151⟩
        have fR152 : ∀ p k, p < 110 ∧ ¬ p = 60 → R141 p k = R10 p k := fun p k h => (z148.2.1 p k (by omega)).2 (by omega)
        have hN4 := z148.2.2.1.1
        have hY4 := z148.2.2.1.2
        have hw60 : rw_S I139 R141 Y142 60 d146 n := by
          obtain ⟨⟨w1, w2, w3, w4, w5, w6⟩, -, -, -⟩ := id z148
          exact ⟨⟨by omega, w4, by omega, w5, (hY4 60 (by omega)).1.trans (at_k hA (j := 12) rfl), w6⟩, w1, w2, w3, by omega⟩
        obtain ⟨w1, wf, wc⟩ : R141 60 0 = some d146 ∧ (∀ q k, q < Y.2.2 → (¬ (q = 60 ∧ k = 1) → I139 q k = I8 q k) ∧ (¬ (q = 60 ∧ k = 0) → R141 q k = R10 q k)) ∧ (d146 = c145 ∨ Y.2.2 ≤ d146) := ⟨z148.1.1, z148.2.1, by rcases z148.2.2.2 with ⟨x, -⟩ | ⟨x, -⟩ <;> omega⟩
        have hF4 : tf_F I8 L9 R10 Y I139 L140 R141 Y142 := ⟨fun x k hx h => by unfold tf_I at h; exact (wf x k hx).1 (by omega), fun x k hx h => by
          unfold tf_L at h
          exact fL151 x k hx (fun e => by rcases wc with y | y; exact h (Or.inr (Or.inr (Or.inr (by rw [e147, e, y])))); omega) (fun e => h (Or.inr (Or.inr (Or.inl e))))
          , fun x k hx h => by unfold tf_R at h; exact (wf x k hx).2 (by omega), hN4, hY4⟩
        have hD4 := lz_fr hD3 hq58 hF4 (fun x e => by
          rw [w1] at e
          cases e
          rcases wc with y | y
          · exact Or.inl (by rw [e147, y])
          · exact Or.inr y)
        have hL4 := hD4.2.1
        have hc46 : ¬ c = d146 := fun e => hD4.2.2.2.2.2.2.2.2 (by rw [w1, e])
        show yi_D zi_Ms d zi_m180 k (99, [(2, .inl (nm (tk_Vs s n0 0) - 8)), (1, .inl f7), (0, .inr (.inr (some 10)))], [], (I139, L140, R141, Y142), (0 + n143), (0 + m144)) _
        refine yi_D_run 1 (100, [(2, .inl (nm (tk_Vs s n0 0) - 8)), (1, .inl f7), (0, .inr (.inr (some 10)))], [.inr (.inr (some 10))], (I139, L140, R141, Y142), (0 + n143), (0 + m144)) (fun _ => rfl) ?_
        have r153 : R141 10 9 = some 58 := by rw [fR152 10 9 (by omega), fr12.2.2 10 9 (by omega), (at_r hA (j := 9) rfl)]
        refine yi_D_gr (v := some 58) rfl rfl rfl r153 (fun _ => ?_)
        refine yi_D_run 1 (104, [(2, .inl (nm (tk_Vs s n0 0) - 8)), (1, .inl f7), (0, .inr (.inr (some 10)))], [.inr (.inr (some 10)), .inr (.inr (some 58))], (I139, L140, R141, Y142), (0 + n143), (0 + m144)) (fun _ => rfl) ?_
        have r154 : R141 10 10 = some 60 := by rw [fR152 10 10 (by omega), fr12.2.2 10 10 (by omega), (at_r hA (j := 10) rfl)]
        refine yi_D_gr (v := some 60) rfl rfl rfl r154 (fun _ => ?_)
        refine yi_D_callv rfl (p_sizeWith hL4.1 hw60) ?_
        rintro _ rfl
        show yi_D zi_Ms d zi_m180 k (110, [(2, .inl (nm (tk_Vs s n0 0) - 8)), (1, .inl f7), (0, .inr (.inr (some 10)))], [.inl (ym_ct (fun k => yi_land (L140 c k) (L140 d146 k)) n)], (I139, L140, R141, Y142), (0 + n143), (0 + m144)) _
        refine yi_D_run 2 (112, [(3, .inl (ym_ct (fun k => yi_land (L140 c k) (L140 d146 k)) n)), (2, .inl (nm (tk_Vs s n0 0) - 8)), (1, .inl f7), (0, .inr (.inr (some 10)))], [.inl (ym_ct (fun k => yi_land (L140 c k) (L140 d146 k)) n)], (I139, L140, R141, Y142), (0 + n143), (0 + m144)) (fun _ => rfl) ?_
        by_cases h155 : (ym_ct (fun k => yi_land (L140 c k) (L140 d146 k)) n) = 0
        · refine yi_D_if1 false rfl (yi_ne_f h155) ?_
          refine yi_D_run 1 (116, [(3, .inl (ym_ct (fun k => yi_land (L140 c k) (L140 d146 k)) n)), (2, .inl (nm (tk_Vs s n0 0) - 8)), (1, .inl f7), (0, .inr (.inr (some 10)))], [.inl (-1)], (I139, L140, R141, Y142), (0 + n143), (0 + m144)) (fun _ => rfl) ?_
          refine yi_D_reti rfl ?_
          have hsp0 : sy_F (tk_Ks s n0) (tk_Ps s n0) (tk_Vs s n0) ld nm 0 := (show f7 = 0 by omega) ▸ sp11
          have hrb : rr_b n T (wB da2 pe2 ev2 kd cs0) (fun k => L140 d146 k) := ⟨fun k hk => k150 k hk, fun x hx => b149 x hx⟩
          have hmm : ym_ct (fun k => yi_land (L140 c k) (L140 d146 k)) n = ym_ct (fun k => yi_land (l k) ((fun k => L140 d146 k) k)) n := ym_ct_c n (fun k hk => by rw [hL4.2.1 k hk])
          exact ⟨_, _, _, _, _, _, _, rfl, Or.inr ⟨hsp0, a0, cs0, ⟨sp0, k59, k00⟩, ⟨k3, nm8⟩, hlen0, Or.inr (Or.inr ⟨by omega, hkd ▸ hnw, (fun k => L140 d146 k), hkd ▸ hrb, Or.inl ⟨by rw [← hmm]; assumption, rfl, hD4⟩⟩)⟩⟩
        · refine yi_D_if1 true rfl (yi_ne_t h155) ?_
          refine yi_D_run 1 (118, [(3, .inl (ym_ct (fun k => yi_land (L140 c k) (L140 d146 k)) n)), (2, .inl (nm (tk_Vs s n0 0) - 8)), (1, .inl f7), (0, .inr (.inr (some 10)))], [.inr (.inr (some 10))], (I139, L140, R141, Y142), (0 + n143), (0 + m144)) (fun _ => rfl) ?_
          have hkq := (p_kindOfQ (d := 0) hq3 hq20 nm8).1
          obtain ⟨ps, e17, hps, e18, hu16, -⟩ := hD4.2.2.2.1.1
          have hp0 : ∀ pb, R141 56 ((ps + u) % 16) = some pb → sy_T R141 Y142 pb ∧ 110 ≤ pb := fun pb hpb => by
            have z := hD4.2.2.2.1.2.1 ((ps + u) % 16) (Nat.mod_lt _ (by omega)) pb hpb
            exact ⟨z.1, z.2.1⟩
          refine yi_D_callv rfl ((yi_P_a (p_remC hD4.1 hD4.2.1 hD4.2.2.1 hD4.2.2.2.1 hD4.2.2.2.2.1 ⟨by omega, by omega, by omega, hSo.1, hSo.2.1⟩) (p_remember hD4.1.1.1 e17 e18 hps hu16 rfl hp0))) ?_
          rintro _ ⟨⟨I156, L157, R158, Y159, n160, m161, rfl, W162, O163, T164, P165, A166, K167, q168⟩, ⟨J169, M170, S171, Z172, n2173, m2174, p175, eq176, r1177, r2178, r3179, r4180, ⟨r5181, r6182⟩, r7183, r8184, rN185, rY186⟩⟩
          have b1187 : I156 = J169 := congrArg (fun z : yi_R => z.2.1.1) eq176
          have b2188 : L157 = M170 := congrArg (fun z : yi_R => z.2.1.2.1) eq176
          have b3189 : R158 = S171 := congrArg (fun z : yi_R => z.2.1.2.2.1) eq176
          have b4190 : Y159 = Z172 := congrArg (fun z : yi_R => z.2.1.2.2.2) eq176
          subst b1187 b2188 b3189 b4190
          have hA5 := W162.1.1
          have hN5 := rN185
          have hY5 := rY186
          have out5 : ∀ x, x < Y142.2.2 → ¬ Y142.1 x = 9 ∧ ¬ Y142.1 x = 26 ∧ ¬ Y142.1 x = 20 → ¬ (p175 ≤ x ∧ x ≤ p175 + 5) := fun x hx hk => sy_no r2178 (by rw [(rY186 x hx).1]; exact hk)
          have hA4 := hD4.1.1.1
          have k604 : Y142.1 60 = 5 := at_k hA4 (j := 12) rfl
          have k624 : Y142.1 62 = 5 := at_k hA4 (j := 13) rfl
          have k414 : Y142.1 41 = 5 := at_k hA4 (j := 6) rfl
          have k464 : Y142.1 46 = 7 := at_k hA4 (j := 8) rfl
          have s5 : ∀ x k, (x = 60 ∨ x = 62 ∨ x = 41 ∨ x = 46) → I156 x k = I139 x k ∧ R158 x k = R141 x k := fun x k hx => by
            have o := out5 x (by omega) (by rcases hx with rfl | rfl | rfl | rfl <;> omega)
            exact ⟨(r7183 x k (by omega) o).1 (by omega), (r7183 x k (by omega) o).2 (by omega)⟩
          have hqs5 : ∀ x, qs_S R158 x → qs_S R141 x := fun x h => by
            unfold qs_S at h ⊢
            rw [(s5 60 0 (by omega)).2, (s5 62 0 (by omega)).2, (s5 41 0 (by omega)).2, (s5 46 1 (by omega)).2] at h
            exact h
          have hD5 : lz_D I156 L157 R158 Y159 pf n da2 pe2 ev2 pr q c (us_n u) A W l S (us_p u U S) M aq := ⟨W162, O163, T164, P165, A166, fun x hx hs => hD4.2.2.2.2.2.1 x hx (hqs5 x hs), hD4.2.2.2.2.2.2.1, hD4.2.2.2.2.2.2.2.1, fun e => hD4.2.2.2.2.2.2.2.2 (by rw [← (s5 60 0 (by omega)).2]; exact e)⟩
          have hw605 := rw_S_t hw60 (s5 60 1 (by omega)).1 (s5 60 0 (by omega)).2 rN185 rY186
          have hd6L : ∀ k, L157 d146 k = L140 d146 k := fun k => r8184 d146 k hw60.1.2.2.2.1
          have hppn : ¬ (p175 ≤ pp ∧ pp ≤ p175 + 5) := by
            rcases r4180 with ⟨e, -⟩ | ⟨-, e, -⟩
            · have e0 : R 56 ((ps + u) % 16) = some p175 := by rw [← fr12.2.2 56 ((ps + u) % 16) (by omega), ← (wf 56 ((ps + u) % 16) (by omega)).2 (by omega)]; exact e
              exact cg_no hcg (hpp pp pp1.1) (hD.2.2.2.1.2.1 _ (Nat.mod_lt _ (by omega)) p175 e0).1 hs9
            · omega
          have hp5 : ∀ k, I156 pp k = I pp k := fun k => ((r7183 pp k (by omega) hppn).1 (by omega)).trans (((wf pp k (by omega)).1 (by omega)).trans (hF3.1 pp k (by omega) (by unfold tf_I; omega)))
          have hl5 : Y159.2.1 pp = (tq_px ld csl).length := ((rY186 pp (by omega)).2).trans ((hY4 pp (by omega)).2.trans pp2)
          have h5q : R158 q 12 = some pp := ((q168 12).2).trans (((wf q 12 (by omega)).2 (by omega)).trans ((fr12.2.2 q 12 (by omega)).trans pp1.1))
          have h5s := T164.2.1.1
          have hT5 := T164.1
          show yi_D zi_Ms d zi_m180 k (121, [(3, .inl (ym_ct (fun k => yi_land (L140 c k) (L140 d146 k)) n)), (2, .inl (nm (tk_Vs s n0 0) - 8)), (1, .inl f7), (0, .inr (.inr (some 10)))], [], (I156, L157, R158, Y159), ((0 + n143) + n160), ((0 + m144) + m161)) _
          refine yi_D_run 1 (122, [(3, .inl (ym_ct (fun k => yi_land (L140 c k) (L140 d146 k)) n)), (2, .inl (nm (tk_Vs s n0 0) - 8)), (1, .inl f7), (0, .inr (.inr (some 10)))], [.inr (.inr (some 10))], (I156, L157, R158, Y159), ((0 + n143) + n160), ((0 + m144) + m161)) (fun _ => rfl) ?_
          refine yi_D_gr (v := some 44) rfl rfl rfl (at_r hA5 (j := 3) rfl) (fun _ => ?_)
          refine yi_D_run 1 (126, [(3, .inl (ym_ct (fun k => yi_land (L140 c k) (L140 d146 k)) n)), (2, .inl (nm (tk_Vs s n0 0) - 8)), (1, .inl f7), (0, .inr (.inr (some 10)))], [.inr (.inr (some 10)), .inr (.inr (some 44))], (I156, L157, R158, Y159), ((0 + n143) + n160), ((0 + m144) + m161)) (fun _ => rfl) ?_
          refine yi_D_gr (v := some q) rfl rfl rfl hD5.1.2.1.1 (fun _ => ?_)
          refine yi_D_gr (v := some pp) rfl rfl (Nat.ble_eq_true_of_le (by omega)) h5q (fun _ => ?_)
          refine yi_D_run 1 (133, [(3, .inl (ym_ct (fun k => yi_land (L140 c k) (L140 d146 k)) n)), (2, .inl (nm (tk_Vs s n0 0) - 8)), (1, .inl f7), (0, .inr (.inr (some 10)))], [.inr (.inr (some 10)), .inr (.inr (some pp)), .inr (.inr (some 44))], (I156, L157, R158, Y159), ((0 + n143) + n160), ((0 + m144) + m161)) (fun _ => rfl) ?_
          refine yi_D_gr (v := some 58) rfl rfl rfl (at_r hA5 (j := 9) rfl) (fun _ => ?_)
          refine yi_D_callv rfl (p_size hD5.2.1.1) ?_
          rintro _ rfl
          show yi_D zi_Ms d zi_m180 k (139, [(3, .inl (ym_ct (fun k => yi_land (L140 c k) (L140 d146 k)) n)), (2, .inl (nm (tk_Vs s n0 0) - 8)), (1, .inl f7), (0, .inr (.inr (some 10)))], [.inl (ym_ct (fun k => yi_land (L157 c k) (L157 c k)) n), .inr (.inr (some pp)), .inr (.inr (some 44))], (I156, L157, R158, Y159), ((0 + n143) + n160), ((0 + m144) + m161)) _
          refine yi_D_run 2 (141, [(3, .inl (ym_ct (fun k => yi_land (L140 c k) (L140 d146 k)) n)), (2, .inl (nm (tk_Vs s n0 0) - 8)), (1, .inl f7), (0, .inr (.inr (some 10)))], [.inr (.inr (some 10)), .inl (ym_ct (fun k => yi_land (L140 c k) (L140 d146 k)) n), .inl (ym_ct (fun k => yi_land (L157 c k) (L157 c k)) n), .inr (.inr (some pp)), .inr (.inr (some 44))], (I156, L157, R158, Y159), ((0 + n143) + n160), ((0 + m144) + m161)) (fun _ => rfl) ?_
          refine yi_D_gr (v := some 50) rfl rfl rfl (at_r hA5 (j := 6) rfl) (fun _ => ?_)
          refine yi_D_gi (v := (S.1.1 : Int)) rfl rfl rfl h5s (fun _ => ?_)
          have hpz := tq_b (be := ym_ct (fun k => yi_land (L157 c k) (L157 c k)) n) (af := ym_ct (fun k => yi_land (L140 c k) (L140 d146 k)) n) (to := (S.1.1 : Int)) (px := tq_px ld csl)
          refine yi_D_callv rfl (p_priceL hA5 (P := pp) (px := tq_px ld csl) ⟨by omega, by omega, hl5, hpx.2.2⟩ (fun k hk => by rw [hp5 k]; exact pp3 k hk) hpx.1 hpx.2.1) ?_
          rintro _ ⟨I191, rfl, f192⟩
          show yi_D zi_Ms d zi_m180 k (150, [(3, .inl (ym_ct (fun k => yi_land (L140 c k) (L140 d146 k)) n)), (2, .inl (nm (tk_Vs s n0 0) - 8)), (1, .inl f7), (0, .inr (.inr (some 10)))], [.inl (tq_p (ym_ct (fun k => yi_land (L157 c k) (L157 c k)) n) (ym_ct (fun k => yi_land (L140 c k) (L140 d146 k)) n) (S.1.1 : Int) (tq_px ld csl))], (I191, L157, R158, Y159), ((0 + n143) + n160), ((0 + m144) + m161)) _
          refine yi_D_run 2 (153, [(4, .inl (tq_p (ym_ct (fun k => yi_land (L157 c k) (L157 c k)) n) (ym_ct (fun k => yi_land (L140 c k) (L140 d146 k)) n) (S.1.1 : Int) (tq_px ld csl))), (3, .inl (ym_ct (fun k => yi_land (L140 c k) (L140 d146 k)) n)), (2, .inl (nm (tk_Vs s n0 0) - 8)), (1, .inl f7), (0, .inr (.inr (some 10)))], [.inr (.inr (some 10))], (I191, L157, R158, Y159), ((0 + n143) + n160), ((0 + m144) + m161)) (fun _ => rfl) ?_
          refine yi_D_gr (v := some 50) rfl rfl rfl (at_r hA5 (j := 6) rfl) (fun _ => ?_)
          refine yi_D_new3 rfl (fun q193 I194 L195 R196 Y197 m198 mk199 mn200 ml201 my202 => ?_)
          obtain ⟨k203, k204, k205, k206, k207, k208⟩ := mk199
          have q193q : q193 = Y159.2.2 := k203
          have q193n := k208
          refine yi_D_run 5 (165, [(4, .inl (tq_p (ym_ct (fun k => yi_land (L157 c k) (L157 c k)) n) (ym_ct (fun k => yi_land (L140 c k) (L140 d146 k)) n) (S.1.1 : Int) (tq_px ld csl))), (3, .inl (ym_ct (fun k => yi_land (L140 c k) (L140 d146 k)) n)), (2, .inl (nm (tk_Vs s n0 0) - 8)), (1, .inl f7), (0, .inr (.inr (some 10)))], [.inr (.inr (some 10)), .inl (ym_ct (fun k => yi_land (L140 c k) (L140 d146 k)) n), .inl (tq_p (ym_ct (fun k => yi_land (L157 c k) (L157 c k)) n) (ym_ct (fun k => yi_land (L140 c k) (L140 d146 k)) n) (S.1.1 : Int) (tq_px ld csl)), .inl (nm (tk_Vs s n0 0) - 8), .inr (.inr (some q193)), .inr (.inr (some q193)), .inr (.inr (some 50))], (I194, L195, R196, Y197), (((0 + n143) + n160) + 1), m198) (fun _ => rfl) ?_
          have r209 : R196 10 10 = some 60 := by rw [(fun p k hp => (k204 p k hp).2.2) 10 10 (by omega), (at_r hA5 (j := 10) rfl)]
          refine yi_D_gr (v := some 60) rfl rfl rfl r209 (fun _ => ?_)
          have hyN : q193 = Y159.2.2 := k203
          have hY7 : ∀ x, x < Y159.2.2 → Y197.1 x = Y159.1 x ∧ Y197.2.1 x = Y159.2.1 x := fun x hx => k206 x (by omega)
          have hN7 : Y197.2.2 = q193 + 1 := k208
          have hw607 : rw_S I194 R196 Y197 60 d146 n := rw_S_t hw605 ((k204 60 1 (by omega)).1.trans (f192 60 1 (by omega))) (k204 60 0 (by omega)).2.2 (by omega) hY7
          refine yi_D_callv rfl (p_copyOut hw607 (by omega)) ?_
          rintro _ ⟨I210, L211, R212, Y213, n214, m215, p216, c217, rfl, ep218, lc219, w220, v221, fr222, N223, Yk224, new225, N3226⟩
          show yi_D zi_Ms d zi_m180 k (171, [(4, .inl (tq_p (ym_ct (fun k => yi_land (L157 c k) (L157 c k)) n) (ym_ct (fun k => yi_land (L140 c k) (L140 d146 k)) n) (S.1.1 : Int) (tq_px ld csl))), (3, .inl (ym_ct (fun k => yi_land (L140 c k) (L140 d146 k)) n)), (2, .inl (nm (tk_Vs s n0 0) - 8)), (1, .inl f7), (0, .inr (.inr (some 10)))], [.inr (.inr (some p216)), .inl (ym_ct (fun k => yi_land (L140 c k) (L140 d146 k)) n), .inl (tq_p (ym_ct (fun k => yi_land (L157 c k) (L157 c k)) n) (ym_ct (fun k => yi_land (L140 c k) (L140 d146 k)) n) (S.1.1 : Int) (tq_px ld csl)), .inl (nm (tk_Vs s n0 0) - 8), .inr (.inr (some q193)), .inr (.inr (some q193)), .inr (.inr (some 50))], (I210, L211, R212, Y213), ((((0 + n143) + n160) + 1) + n214), (m198 + m215)) _
          refine yi_D_callp rfl rfl (p_initSaying (by omega)) ?_
          rintro _ ⟨I227, R228, rfl, v229, r3230, fi231, fr232⟩
          have hF9 : tf_F I156 L157 R158 Y159 I227 L211 R228 Y213 := ⟨fun x k hx h => by unfold tf_I at h; exact (fi231 x k (by omega)).trans ((fr222 x k (by omega)).1.trans ((k204 x k (by omega)).1.trans (f192 x k (by omega)))), fun x k hx h => (fr222 x k (by omega)).2.1.trans (k204 x k (by omega)).2.1, fun x k hx h => (fr232 x k (by omega)).trans ((fr222 x k (by omega)).2.2.trans (k204 x k (by omega)).2.2), by omega, fun x hx => ⟨(Yk224 x (by omega)).1.trans (hY7 x hx).1, (Yk224 x (by omega)).2.trans (hY7 x hx).2⟩⟩
          have e609 : R228 60 0 = some d146 := (fr232 60 0 (by omega)).trans ((fr222 60 0 (by omega)).2.2.trans ((k204 60 0 (by omega)).2.2.trans hw605.2.1))
          have hD9 := lz_fr hD5 hq58 hF9 (fun x e => Or.inl (by rw [e609] at e; rw [← e]; exact hw605.2.1))
          have hT9 := hD9.2.2.1.1
          have hs9t := hD9.2.2.1.2.1.1
          have hpu9 := hD9.2.2.1.2.2.1
          show yi_D zi_Ms d zi_m180 k (174, [(4, .inl (tq_p (ym_ct (fun k => yi_land (L157 c k) (L157 c k)) n) (ym_ct (fun k => yi_land (L140 c k) (L140 d146 k)) n) (S.1.1 : Int) (tq_px ld csl))), (3, .inl (ym_ct (fun k => yi_land (L140 c k) (L140 d146 k)) n)), (2, .inl (nm (tk_Vs s n0 0) - 8)), (1, .inl f7), (0, .inr (.inr (some 10)))], [.inr (.inr (some q193)), .inr (.inr (some 50))], (I227, L211, R228, Y213), ((((0 + n143) + n160) + 1) + n214), (m198 + m215)) _
          refine yi_D_callv rfl (p_addSaying hT9 (t := S.1.1) hs9t (by omega)) ?_
          rintro _ ⟨I233, R234, rfl, e6235, e5236, fi237, fr238⟩
          have hT10 : sy_T R234 Y213 50 := sy_T_t hT9 (fun k _ => fr238 50 k (by omega)) (Nat.le_refl _) (fun _ _ => ⟨rfl, rfl⟩)
          have hA10 : at_T R234 Y213 := at_T_t hD9.1.1.1 (fun x hx => by have b : ∀ x ∈ at_L, ¬ x.1 = 51 := (by decide +kernel); exact fr238 _ _ (fun e => b x hx e.1)) (Nat.le_refl _) (fun _ _ => ⟨rfl, rfl⟩)
          show yi_D zi_Ms d zi_m180 k (177, [(4, .inl (tq_p (ym_ct (fun k => yi_land (L157 c k) (L157 c k)) n) (ym_ct (fun k => yi_land (L140 c k) (L140 d146 k)) n) (S.1.1 : Int) (tq_px ld csl))), (3, .inl (ym_ct (fun k => yi_land (L140 c k) (L140 d146 k)) n)), (2, .inl (nm (tk_Vs s n0 0) - 8)), (1, .inl f7), (0, .inr (.inr (some 10)))], [], (I233, L211, R234, Y213), ((((0 + n143) + n160) + 1) + n214), (m198 + m215)) _
          refine yi_D_run 1 (178, [(4, .inl (tq_p (ym_ct (fun k => yi_land (L157 c k) (L157 c k)) n) (ym_ct (fun k => yi_land (L140 c k) (L140 d146 k)) n) (S.1.1 : Int) (tq_px ld csl))), (3, .inl (ym_ct (fun k => yi_land (L140 c k) (L140 d146 k)) n)), (2, .inl (nm (tk_Vs s n0 0) - 8)), (1, .inl f7), (0, .inr (.inr (some 10)))], [.inr (.inr (some 10))], (I233, L211, R234, Y213), ((((0 + n143) + n160) + 1) + n214), (m198 + m215)) (fun _ => rfl) ?_
          refine yi_D_gr (v := some 50) rfl rfl rfl (at_r hA10 (j := 6) rfl) (fun _ => ?_)
          refine yi_D_run 2 (184, [(4, .inl (tq_p (ym_ct (fun k => yi_land (L157 c k) (L157 c k)) n) (ym_ct (fun k => yi_land (L140 c k) (L140 d146 k)) n) (S.1.1 : Int) (tq_px ld csl))), (3, .inl (ym_ct (fun k => yi_land (L140 c k) (L140 d146 k)) n)), (2, .inl (nm (tk_Vs s n0 0) - 8)), (1, .inl f7), (0, .inr (.inr (some 10)))], [.inl (tq_p (ym_ct (fun k => yi_land (L157 c k) (L157 c k)) n) (ym_ct (fun k => yi_land (L140 c k) (L140 d146 k)) n) (S.1.1 : Int) (tq_px ld csl)), .inl (nm (tk_Vs s n0 0) - 8), .inr (.inr (some 50))], (I233, L211, R234, Y213), ((((0 + n143) + n160) + 1) + n214), (m198 + m215)) (fun _ => rfl) ?_
          have hpj : I233 52 (nm (tk_Vs s n0 0) - 8).toNat = S.2.2.2.1 (nm (tk_Vs s n0 0) - 8).toNat := (fi237 52 _ (by omega)).trans (hpu9 (nm (tk_Vs s n0 0) - 8).toNat (by omega))
          have hpb := hSo.2.2 (nm (tk_Vs s n0 0) - 8).toNat (by omega)
          refine yi_D_callv rfl (p_pay hT10 ⟨by omega, by omega⟩ ⟨by rw [hpj]; exact hpb.1, by rw [hpj]; exact hpb.2, hpz.1, hpz.2⟩) ?_
          rintro _ ⟨I239, rfl, e240, f241⟩
          show yi_D zi_Ms d zi_m180 k (187, [(4, .inl (tq_p (ym_ct (fun k => yi_land (L157 c k) (L157 c k)) n) (ym_ct (fun k => yi_land (L140 c k) (L140 d146 k)) n) (S.1.1 : Int) (tq_px ld csl))), (3, .inl (ym_ct (fun k => yi_land (L140 c k) (L140 d146 k)) n)), (2, .inl (nm (tk_Vs s n0 0) - 8)), (1, .inl f7), (0, .inr (.inr (some 10)))], [], (I239, L211, R234, Y213), ((((0 + n143) + n160) + 1) + n214), (m198 + m215)) _
          refine yi_D_run 1 (188, [(4, .inl (tq_p (ym_ct (fun k => yi_land (L157 c k) (L157 c k)) n) (ym_ct (fun k => yi_land (L140 c k) (L140 d146 k)) n) (S.1.1 : Int) (tq_px ld csl))), (3, .inl (ym_ct (fun k => yi_land (L140 c k) (L140 d146 k)) n)), (2, .inl (nm (tk_Vs s n0 0) - 8)), (1, .inl f7), (0, .inr (.inr (some 10)))], [.inr (.inr (some 10))], (I239, L211, R234, Y213), ((((0 + n143) + n160) + 1) + n214), (m198 + m215)) (fun _ => rfl) ?_
          refine yi_D_gr (v := some 58) rfl rfl rfl (at_r hA10 (j := 9) rfl) (fun _ => ?_)
          refine yi_D_run 1 (192, [(4, .inl (tq_p (ym_ct (fun k => yi_land (L157 c k) (L157 c k)) n) (ym_ct (fun k => yi_land (L140 c k) (L140 d146 k)) n) (S.1.1 : Int) (tq_px ld csl))), (3, .inl (ym_ct (fun k => yi_land (L140 c k) (L140 d146 k)) n)), (2, .inl (nm (tk_Vs s n0 0) - 8)), (1, .inl f7), (0, .inr (.inr (some 10)))], [.inr (.inr (some 10)), .inr (.inr (some 58))], (I239, L211, R234, Y213), ((((0 + n143) + n160) + 1) + n214), (m198 + m215)) (fun _ => rfl) ?_
          refine yi_D_gr (v := some 60) rfl rfl rfl (at_r hA10 (j := 10) rfl) (fun _ => ?_)
          have eI : ∀ x k, ¬ (x = 50 ∧ k = 6) → ¬ (x = 52 ∧ k = (nm (tk_Vs s n0 0) - 8).toNat) → I239 x k = I227 x k := fun x k h1 h2 => (f241 x k h2).trans (fi237 x k h1)
          have hw58 : rw_S I239 R234 Y213 58 c n := rw_S_t hD9.2.1.1 (eI 58 1 (by omega) (by omega)) (fr238 58 0 (by omega)) (Nat.le_refl _) (fun _ _ => ⟨rfl, rfl⟩)
          have hw609 : rw_S I239 R234 Y213 60 d146 n := rw_S_t (rw_S_t hw607 (fi231 60 1 (by omega) |>.trans (fr222 60 1 (by omega)).1) (fr232 60 0 (by omega) |>.trans (fr222 60 0 (by omega)).2.2) N223 Yk224) (eI 60 1 (by omega) (by omega)) (fr238 60 0 (by omega)) (Nat.le_refl _) (fun _ _ => ⟨rfl, rfl⟩)
          refine yi_D_callv rfl (p_keep hw58 hw609) ?_
          rintro _ ⟨L242, rfl, v243, f244⟩
          show yi_D zi_Ms d zi_m180 k (198, [(4, .inl (tq_p (ym_ct (fun k => yi_land (L157 c k) (L157 c k)) n) (ym_ct (fun k => yi_land (L140 c k) (L140 d146 k)) n) (S.1.1 : Int) (tq_px ld csl))), (3, .inl (ym_ct (fun k => yi_land (L140 c k) (L140 d146 k)) n)), (2, .inl (nm (tk_Vs s n0 0) - 8)), (1, .inl f7), (0, .inr (.inr (some 10)))], [], (I239, L242, R234, Y213), ((((0 + n143) + n160) + 1) + n214), (m198 + m215)) _
          refine yi_D_run 1 (199, [(4, .inl (tq_p (ym_ct (fun k => yi_land (L157 c k) (L157 c k)) n) (ym_ct (fun k => yi_land (L140 c k) (L140 d146 k)) n) (S.1.1 : Int) (tq_px ld csl))), (3, .inl (ym_ct (fun k => yi_land (L140 c k) (L140 d146 k)) n)), (2, .inl (nm (tk_Vs s n0 0) - 8)), (1, .inl f7), (0, .inr (.inr (some 10)))], [.inl 0], (I239, L242, R234, Y213), ((((0 + n143) + n160) + 1) + n214), (m198 + m215)) (fun _ => rfl) ?_
          refine yi_D_reti rfl ?_
          have hsp0 : sy_F (tk_Ks s n0) (tk_Ps s n0) (tk_Vs s n0) ld nm 0 := (show f7 = 0 by omega) ▸ sp11
          have hrb : rr_b n T (wB da2 pe2 ev2 kd cs0) (fun k => L140 d146 k) := ⟨fun k hk => k150 k hk, fun x hx => b149 x hx⟩
          have hmm : ym_ct (fun k => yi_land (L140 c k) (L140 d146 k)) n = ym_ct (fun k => yi_land (l k) ((fun k => L140 d146 k) k)) n := ym_ct_c n (fun k hk => by rw [hL4.2.1 k hk])
          have hbe : ym_ct (fun k => yi_land (L157 c k) (L157 c k)) n = ym_ct (fun k => yi_land (l k) (l k)) n := ym_ct_c n (fun k hk => by rw [hD5.2.1.2.1 k hk])
          have hbd : ∀ x k z, x < Y.2.2 → R x k = some z → z < Y.2.2 := fun x k z hx e => ((hK I L).1 x k z hx e).1
          have rr9 : ∀ x k, (x = 62 ∨ x = 41 ∨ x = 46) → R228 x k = R x k := fun x k hx => (hF9.2.2.1 x k (by omega) (by unfold tf_R; omega)).trans (((s5 x k (by omega)).2).trans (((wf x k (by omega)).2 (by omega)).trans (fr12.2.2 x k (by omega))))
          have hnq : ∀ x, Y159.2.2 ≤ x → ¬ qs_S R228 x := fun x hx hs => by
            unfold qs_S at hs
            rcases hs with z | z | z | z | z | z
            · omega
            · omega
            · rw [e609] at z; cases z; have := hw605.1.2.2.2.1; omega
            · rw [rr9 62 0 (by omega)] at z; have := hbd 62 0 x (by omega) z; omega
            · rw [rr9 41 0 (by omega)] at z; have := hbd 41 0 x (by omega) z; omega
            · rw [rr9 46 1 (by omega)] at z; have := hbd 46 1 x (by omega) z; omega
          have hcN5 := hD5.2.1.1.1.2.2.2.1
          have hd5N := hw605.1.2.2.2.1
          have hrw9 : rw_S I227 R228 Y213 p216 c217 n := rw_S_t w220 (fi231 _ 1 (by omega)) (fr232 _ 0 (by omega)) (Nat.le_refl _) (fun _ _ => ⟨rfl, rfl⟩)
          have hv9 : ∀ k, k < n → L211 c217 k = (fun k => L140 d146 k) k := fun k hk => (v221 k hk).trans (((k204 _ k (by omega)).2.1).trans (hd6L k))
          obtain ⟨pf2, hm2, hD12⟩ := lz_tell (I' := I239) (L' := L242) (R' := R234) (f := p216) (c2 := c217) (y := q193) (r := (fun k => L140 d146 k)) (t := nm (tk_Vs s n0 0) - 8) (pz := (if 99999 < S.2.2.2.1 (nm (tk_Vs s n0 0) - 8).toNat + tq_p (ym_ct (fun k => yi_land (L157 c k) (L157 c k)) n) (ym_ct (fun k => yi_land (L140 c k) (L140 d146 k)) n) (S.1.1 : Int) (tq_px ld csl) then 99999 else S.2.2.2.1 (nm (tk_Vs s n0 0) - 8).toNat + tq_p (ym_ct (fun k => yi_land (L157 c k) (L157 c k)) n) (ym_ct (fun k => yi_land (L140 c k) (L140 d146 k)) n) (S.1.1 : Int) (tq_px ld csl))) hD9 (by omega) hq58 ⟨by omega, by omega⟩ hrw9 hv9 ⟨⟨by omega, by omega, (Yk224 _ (by omega)).1.trans my202⟩, v229, r3230⟩ ⟨hnq _ (by omega), hnq _ (by omega), hnq _ (by omega)⟩ ⟨by omega, by omega, by omega, by omega⟩ ((f241 50 6 (by omega)).trans e6235) (by rw [e240, hpj]) eI e5236 fr238 f244 (fun k hk => by rw [v243 k hk, hD9.2.1.2.1 k hk, (fr222 _ k (by omega)).2.1, (k204 _ k (by omega)).2.1, hd6L k])
          rw [hbe, hmm] at hD12
          exact ⟨_, _, _, _, _, _, _, rfl, Or.inr ⟨hsp0, a0, cs0, ⟨sp0, k59, k00⟩, ⟨k3, nm8⟩, hlen0, Or.inr (Or.inr ⟨by omega, hkd ▸ hnw, (fun k => L140 d146 k), hkd ▸ hrb, Or.inr ⟨by rw [← hmm]; assumption, rfl, pf2, hm2, hD12⟩⟩)⟩⟩
    · refine yi_D_if2 false rfl (yi_lt_f h17) ?_
      refine yi_D_run 1 (39, [(1, .inl f7), (0, .inr (.inr (some 10)))], [.inl (-3)], (I8, L9, R10, Y), 0, 0) (fun _ => rfl) ?_
      refine yi_D_reti rfl ?_
      have hsp0 : sy_F (tk_Ks s n0) (tk_Ps s n0) (tk_Vs s n0) ld nm 0 := (show f7 = 0 by omega) ▸ sp11
      exact ⟨_, _, _, _, _, _, _, rfl, Or.inr ⟨hsp0, a0, cs0, ⟨sp0, k59, k00⟩, ⟨k3, nm8⟩, hlen0, Or.inl ⟨by omega, rfl, hD3⟩⟩⟩
  · refine yi_D_if1 false rfl (yi_eq_f h15) ?_
    refine yi_D_run 1 (24, [(1, .inl f7), (0, .inr (.inr (some 10)))], [.inl f7], (I8, L9, R10, Y), 0, 0) (fun _ => rfl) ?_
    refine yi_D_reti rfl ?_
    exact ⟨_, _, _, _, _, _, _, rfl, Or.inl ⟨sp11, by omega, hD3⟩⟩
