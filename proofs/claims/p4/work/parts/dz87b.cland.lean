/-! The class: a land, codes and all. -/
theorem sgm_in {cs : List (Int × Int)} {s : Nat} : ∀ c ∈ sgm cs s, c ∈ cs := fun c hc => by
  have h1 : c ∈ cs.drop s := (List.takeWhile_subset _) hc
  exact List.mem_of_mem_drop h1
/-- a land's programmes are well formed -/
def lw_F (ld : Nat → Int) (cs : List (Int × Int)) : Prop := (∀ j : Nat, (j : Int) < ld 4 → wfN 13 (sl ld cs j) ∧ ∀ c ∈ sl ld cs j, pF c) ∧ ∀ w : Nat, (w : Int) < ld 5 → wfN 13 (sw ld cs w) ∧ ∀ c ∈ sw ld cs w, pF c
section LCP
variable {I : Nat → Nat → Int} {R : Nat → Nat → Option Nat} {Y : (Nat → Nat) × (Nat → Nat) × Nat} {q u da pe ev n T : Nat} {ld : Nat → Int} {cs : List (Int × Int)}
/-- a law's codes as the class keeps them -/
theorem lc_law (hln : ln_S I R Y q u ld cs) (hF : lw_F ld cs) (hz : ∀ x ∈ cs, x.1 = 11 → okz da pe ev x.2) (hda : ld 0 = (da : Int)) (bld : da ≤ 6 ∧ pe ≤ 4 ∧ ev ≤ 4) (hT : T ≤ 64 * n) {j : Nat} (hj : (j : Int) < ld 4) : (I (q + 9) j = (((I (q + 9) j).toNat : Nat) : Int) ∧ I (q + 10) j = (((I (q + 9) j).toNat + (sl ld cs j).length : Nat) : Int)) ∧ (I (q + 9) j).toNat + (sl ld cs j).length ≤ u ∧ (∀ k, k < (sl ld cs j).length → I 19 ((I (q + 9) j).toNat + k) = (((I 19 ((I (q + 9) j).toNat + k)).toNat : Nat) : Int)) ∧ prg_S (fun k => (I 19 k).toNat) n T da pe ev (I (q + 9) j).toNat (sl ld cs j).length (vB da pe ev 0 (sl ld cs j)) := by
  obtain ⟨fr, ⟨e1, e2⟩, hu, hsg, hl, -⟩ := hln.2.1 j hj
  have ef : (I (q + 9) j).toNat = fr := by rw [e1]; rfl
  rw [ef]
  have hd : (ld 0).toNat = da := by rw [hda]; rfl
  rw [hd] at hl
  have hn0 : ∀ k, k < (sl ld cs j).length → I 19 (fr + k) = (((I 19 (fr + k)).toNat : Nat) : Int) := fun k hk => by
    have h0 : 0 ≤ I 19 (fr + k) := by rw [hl k hk]; exact trF_nn
    omega
  refine ⟨⟨e1, e2⟩, hu, hn0, prg_1 (prg_V bld hT (hF.1 j hj).1 (hF.1 j hj).2 (fun c hc => hz c (sgm_in c hc)) (fun k hk => ?_))⟩
  rw [← hl k hk]
  exact (hn0 k hk).symm
/-- a wish's -/
theorem lc_wish (hln : ln_S I R Y q u ld cs) (hF : lw_F ld cs) (hz : ∀ x ∈ cs, x.1 = 11 → okz da pe ev x.2) (hda : ld 0 = (da : Int)) (bld : da ≤ 6 ∧ pe ≤ 4 ∧ ev ≤ 4) (hT : T ≤ 64 * n) {w : Nat} (hw : (w : Int) < ld 5) : (I (q + 11) w = (((I (q + 11) w).toNat : Nat) : Int) ∧ I (q + 12) w = (((I (q + 11) w).toNat + ((sw ld cs w).length + (wtw ld cs w).length) : Nat) : Int)) ∧ (I (q + 11) w).toNat + ((sw ld cs w).length + (wtw ld cs w).length) ≤ u ∧ (∀ k, k < (sw ld cs w).length + (wtw ld cs w).length → I 19 ((I (q + 11) w).toNat + k) = (((I 19 ((I (q + 11) w).toNat + k)).toNat : Nat) : Int)) ∧ prg_S (fun k => (I 19 k).toNat) n T da pe ev (I (q + 11) w).toNat ((sw ld cs w).length + (wtw ld cs w).length) (wB da pe ev (kw ld w) (sw ld cs w)) := by
  obtain ⟨fr, -, ⟨e1, e2⟩, hu, hsg, hl, ht⟩ := hln.2.2.1 w hw
  have ef : (I (q + 11) w).toNat = fr := by rw [e1]; rfl
  rw [ef]
  have hd : (ld 0).toNat = da := by rw [hda]; rfl
  rw [hd] at hl
  have hn0 : ∀ k, k < (sw ld cs w).length → I 19 (fr + k) = (((I 19 (fr + k)).toNat : Nat) : Int) := fun k hk => by
    have h0 : 0 ≤ I 19 (fr + k) := by rw [hl k hk]; exact trF_nn
    omega
  have hn1 : ∀ k, k < (wtw ld cs w).length → I 19 (fr + (sw ld cs w).length + k) = (((I 19 (fr + (sw ld cs w).length + k)).toNat : Nat) : Int) := fun k hk => by
    rw [ht k hk]
    rfl
  refine ⟨⟨e1, e2⟩, hu, fun k hk => ?_, prg_1 (prg_W bld hT (hF.2 w hw).1 (hF.2 w hw).2 (fun c hc => hz c (sgm_in c hc)) (fun k hk => ?_) (fun k hk => ?_))⟩
  · by_cases c : k < (sw ld cs w).length
    · exact hn0 k c
    · have z := hn1 (k - (sw ld cs w).length) (by omega)
      rw [show fr + (sw ld cs w).length + (k - (sw ld cs w).length) = fr + k by omega] at z
      exact z
  · rw [← hl k hk]
    exact (hn0 k hk).symm
  · have z := ht k hk
    show (I 19 (fr + (sw ld cs w).length + k)).toNat = _
    rw [z]
    rfl
end LCP
/-- the fixed places under a step that leaves the old slots, but the land's -/
theorem lc_T {N : Nat} {R R' : Nat → Nat → Option Nat} {Y Y' : (Nat → Nat) × (Nat → Nat) × Nat} (hA : at_T R Y) (hy : wy_S R Y) (hh : bd_h R) (hR : ∀ p k, p < Y.2.2 → ¬ (p = 11 ∧ k = 6) → ¬ (p = 10 ∧ k = 16) → R' p k = R p k) (hN : Y.2.2 ≤ Y'.2.2) (hY : ∀ p, p < Y.2.2 → Y'.1 p = Y.1 p ∧ Y'.2.1 p = Y.2.1 p) : at_T R' Y' ∧ wy_S R' Y' ∧ bd_h R' := by
  have h110 := hA.2.2.2
  have b : ∀ x ∈ at_L, x.1 < 110 ∧ ¬ (x.1 = 11 ∧ x.2.1 = 6) ∧ ¬ (x.1 = 10 ∧ x.2.1 = 16) := by decide
  have h39 : ∀ i, R' 39 i = R 39 i := fun i => hR 39 i (by omega) (by omega) (by omega)
  have h40 : ∀ i, R' 40 i = R 40 i := fun i => hR 40 i (by omega) (by omega) (by omega)
  have hf : ∀ f, 110 ≤ f → f < Y.2.2 → ∀ k, R' f k = R f k := fun f h1 h2 k => hR f k h2 (by omega) (by omega)
  refine ⟨at_T_t hA (fun x hx => hR _ _ (by have := b x hx; omega) (b x hx).2.1 (b x hx).2.2) hN hY, ⟨fun i f hi e => ?_, fun j f hj e => ?_⟩, ?_, ?_⟩
  · rw [h39] at e
    obtain ⟨⟨k1, k2, k3⟩, ⟨c, k4, k5⟩, k6, k7⟩ := hy.1 i f hi e
    exact ⟨⟨k1, by omega, (hY f k2).1.trans k3⟩, ⟨c, (hf f k1 k2 0).trans k4, k5⟩, fun i' hi' e' => k6 i' hi' (by rw [← h39]; exact e'), fun j hj e' => k7 j hj (by rw [← h40]; exact e')⟩
  · rw [h40] at e
    obtain ⟨⟨k1, k2, k3⟩, ⟨c, k4, k5⟩, k6⟩ := hy.2 j f hj e
    exact ⟨⟨k1, by omega, (hY f k2).1.trans k3⟩, ⟨c, (hf f k1 k2 0).trans k4, k5⟩, fun j' hj' e' => k6 j' hj' (by rw [← h40]; exact e')⟩
  · obtain ⟨c, hc⟩ := hh.1
    exact ⟨c, (hR 35 0 (by omega) (by omega) (by omega)).trans hc⟩
  · obtain ⟨c, hc⟩ := hh.2
    exact ⟨c, (hR 41 0 (by omega) (by omega) (by omega)).trans hc⟩
/-- what a refused land leaves -/
def lc_F (I L : Nat → Nat → Int) (R : Nat → Nat → Option Nat) (Y : (Nat → Nat) × (Nat → Nat) × Nat) (I' L' : Nat → Nat → Int) (R' : Nat → Nat → Option Nat) (Y' : (Nat → Nat) × (Nat → Nat) × Nat) : Prop := (∀ p k, p < Y.2.2 → ¬ (p = 11 ∨ p = 12 ∨ p = 14 ∨ p = 15 ∨ p = 19) → I' p k = I p k) ∧ (∀ p k, p < Y.2.2 → ¬ p = 11 → ¬ p = 16 → ¬ p = 19 → L' p k = L p k) ∧ (∀ p k, p < Y.2.2 → ¬ (p = 11 ∧ k = 6) → R' p k = R p k) ∧ Y.2.2 ≤ Y'.2.2 ∧ ∀ p, p < Y.2.2 → Y'.1 p = Y.1 p ∧ Y'.2.1 p = Y.2.1 p
/-- all that stands behind a land -/
def lc_G (I L : Nat → Nat → Int) (R : Nat → Nat → Option Nat) (Y : (Nat → Nat) × (Nat → Nat) × Nat) (I' L' : Nat → Nat → Int) (R' : Nat → Nat → Option Nat) (Y' : (Nat → Nat) × (Nat → Nat) × Nat) : Prop := (∀ p k, p < Y.2.2 → ¬ bd_r R p → ¬ (p = 11 ∨ p = 12 ∨ p = 14 ∨ p = 15 ∨ p = 19 ∨ p = 34 ∨ p = 50 ∨ p = 52 ∨ p = 53) → ¬ (p = 10 ∧ (k = 17 ∨ k = 18)) → ¬ (p = 58 ∧ k = 1) → I' p k = I p k) ∧ (∀ p k, p < Y.2.2 → ¬ (∃ f, bd_r R f ∧ R f 0 = some p) → ¬ R 58 0 = some p → ¬ (p = 11 ∨ p = 16 ∨ p = 19 ∨ p = 43) → L' p k = L p k) ∧ (∀ p k, p < Y.2.2 → ¬ bd_r R p → ¬ (p = 39 ∨ p = 40 ∨ p = 57) → ¬ (p = 11 ∧ k = 6) → ¬ (p = 10 ∧ k = 16) → ¬ (p = 50 ∧ k = 5) → ¬ (p = 58 ∧ k = 0) → R' p k = R p k) ∧ (Y.2.2 ≤ Y'.2.2 ∧ ∀ p, p < Y.2.2 → Y'.1 p = Y.1 p ∧ Y'.2.1 p = Y.2.1 p) ∧ (∀ f, bd_r R' f → bd_r R f ∨ Y.2.2 ≤ f) ∧ (∀ f c, bd_r R' f → R' f 0 = some c → (bd_r R f ∧ R f 0 = some c) ∨ Y.2.2 ≤ c)
/-- the laws' row as it stands -/
def wA (L : Nat → Nat → Int) (R : Nat → Nat → Option Nat) (k : Nat) : Int := match R 35 0 with
  | some c => L c k
  | none => 0
theorem gd_m1 {A : Nat → Int} {W : Nat → Nat → Int} {ev k : Nat} : ∀ m, gd A W ev (fun _ => -1) m k = A k
  | 0 => rfl
  | m + 1 => by
    show (if (0 : Int) ≤ -1 then yi_land (gd A W ev (fun _ => -1) m k) (W (ev * m + (-1 : Int).toNat) k) else gd A W ev (fun _ => -1) m k) = A k
    rw [if_neg (by omega)]
    exact gd_m1 m
/-- fewer references -/
theorem lc_Ks {R R' : Nat → Nat → Option Nat} {Y : (Nat → Nat) × (Nat → Nat) × Nat} (hK : cz_K R Y) (h : ∀ p k q, R' p k = some q → R p k = some q) : cz_K R' Y := by
  intro A B
  obtain ⟨z1, z2, z3, z4, z5⟩ := hK A B
  exact ⟨fun p k q hp e => z1 p k q hp (h p k q e), z2, z3, z4, fun f c hf hk e => by
    obtain ⟨a, b, d⟩ := z5 f c hf hk (h f 0 c e)
    exact ⟨a, b, fun f' hf' hk' e' => d f' hf' hk' (h f' 0 c e')⟩⟩
theorem lc_wy {R R' : Nat → Nat → Option Nat} {Y Y' : (Nat → Nat) × (Nat → Nat) × Nat} (hy : wy_S R Y) (h39 : ∀ i, R' 39 i = R 39 i) (h40 : ∀ i, R' 40 i = R 40 i) (hf : ∀ f, 110 ≤ f → f < Y.2.2 → R' f 0 = R f 0) (hN : Y.2.2 ≤ Y'.2.2) (hY : ∀ p, p < Y.2.2 → Y'.1 p = Y.1 p ∧ Y'.2.1 p = Y.2.1 p) : wy_S R' Y' := by
  refine ⟨fun i f hi e => ?_, fun j f hj e => ?_⟩
  · rw [h39] at e
    obtain ⟨⟨k1, k2, k3⟩, ⟨c, k4, k5⟩, k6, k7⟩ := hy.1 i f hi e
    exact ⟨⟨k1, by omega, (hY f k2).1.trans k3⟩, ⟨c, (hf f k1 k2).trans k4, k5⟩, fun i' hi' e' => k6 i' hi' (by rw [← h39]; exact e'), fun j hj e' => k7 j hj (by rw [← h40]; exact e')⟩
  · rw [h40] at e
    obtain ⟨⟨k1, k2, k3⟩, ⟨c, k4, k5⟩, k6⟩ := hy.2 j f hj e
    exact ⟨⟨k1, by omega, (hY f k2).1.trans k3⟩, ⟨c, (hf f k1 k2).trans k4, k5⟩, fun j' hj' e' => k6 j' hj' (by rw [← h40]; exact e')⟩
theorem bd_r_e {R R' : Nat → Nat → Option Nat} {f : Nat} (h39 : ∀ i, R' 39 i = R 39 i) (h40 : ∀ i, R' 40 i = R 40 i) (h : bd_r R' f) : bd_r R f := by
  rcases h with z | z | ⟨i, hi, e⟩ | ⟨j, hj, e⟩
  · exact Or.inl z
  · exact Or.inr (Or.inl z)
  · exact Or.inr (Or.inr (Or.inl ⟨i, hi, (h39 i).symm.trans e⟩))
  · exact Or.inr (Or.inr (Or.inr ⟨j, hj, (h40 j).symm.trans e⟩))
theorem wA_at {L : Nat → Nat → Int} {R : Nat → Nat → Option Nat} {c k : Nat} (h : R 35 0 = some c) : wA L R k = L c k := by
  unfold wA
  rw [h]
/-- a land of the class, as it stands behind its build -/
def lc_E (I L : Nat → Nat → Int) (R : Nat → Nat → Option Nat) (Y : (Nat → Nat) × (Nat → Nat) × Nat) (q da pe ev n T : Nat) (ld : Nat → Int) (nm : Int → Int) (cs : List (Int × Int)) : Prop := ((at_T R Y ∧ wy_S R Y) ∧ (R 10 16 = some q ∧ 110 ≤ q ∧ q + 14 ≤ Y.2.2 ∧ Y.1 q = 3)) ∧ (lq_C q ld nm I L R Y ∧ (∀ w : Nat, (w : Int) < ld 5 → I (q + 7) w = ld (25 + 3 * w) ∧ I (q + 8) w = ld (26 + 3 * w) ∧ 0 ≤ ld (25 + 3 * w) ∧ ld (25 + 3 * w) < ld 3) ∧ ln_Pr I R Y q ld cs) ∧ (I 34 2 = (T : Int) ∧ I 34 7 = (da : Int) ∧ I 34 8 = (pe : Int) ∧ I 34 9 = (n : Int)) ∧ (rb_S I L R Y 35 n (fun x => decide (x < T) && allB (fun j => vB da pe ev 0 (sl ld cs j)) x (ld 4).toNat) ∧ (∀ d x e, d < da → x < pe → e < ev → ∃ f, R 39 (16 * d + 4 * x + e) = some f ∧ rb_S I L R Y f n (fun z => decide (z < T ∧ z / ev ^ (da * pe - 1 - (pe * d + x)) % ev = e))) ∧ ∀ w : Nat, (w : Int) < ld 5 → ∃ f, R 40 w = some f ∧ rb_S I L R Y f n (fun x => decide (x < T) && wB da pe ev (kw ld w) (sw ld cs w) x)) ∧ (R 50 5 = none ∧ (I 50 6 = 0 ∧ I 50 7 = 1 ∧ I 50 8 = 0) ∧ (∀ k, k < 24 → I 53 k = -1) ∧ (∀ k : Nat, k < 5 → I 52 k = if 0 ≤ (k : Int) ∧ (k : Int) < ld 3 then I (q + 6) k else -1)) ∧ (I 10 17 = 0 ∧ I 10 18 = 0 ∧ ∀ m, m < 4 → R 57 m = none) ∧ ∃ c, rw_S I R Y 58 c n ∧ ∀ k, k < n → L c k = wA L R k
theorem p_landC {d : Nat} {I L : Nat → Nat → Int} {R : Nat → Nat → Option Nat} {Y : (Nat → Nat) × (Nat → Nat) × Nat} (hA : at_T R Y) (hK : cz_K R Y) (hy : wy_S R Y) (hh : bd_h R) (hX : cs_S R Y ∧ True) {s : Nat → Int} {n0 : Nat} (hn : n0 ≤ 1000) (h5 : I 12 5 = (n0 : Int)) (hs : ∀ i, i < n0 → I 13 i = s i) (hb : ∀ i, i < n0 → 0 ≤ s i ∧ s i ≤ 127) (hk : ∀ j : Nat, j < 29 → sp_WR (L 17 j) (sp_W37.getD j 0)) (hw18 : L 18 0 = 72564293 ∧ L 18 1 = 1265842 ∧ L 18 2 = 671108) (h58 : ∃ c, R 58 0 = some c) (hwf : ∀ a ld nm cs, sp_R (tk_Ks s n0) (tk_Ps s n0) (tk_Vs s n0) (0, 0, 0, [], sp_ld0, sp_nm0, []) (.inl (2, a, 0, [], ld, nm, cs)) → tk_Ks s n0 a = 0 → lw_F ld cs) : yi_P zi_Ms d 162 [.inr (.inr (some 10))] (I, L, R, Y) (fun r => ∃ f I' L' R' Y' n' m', r = (some (.inl f), (I', L', R', Y'), n', m') ∧ sp_R (tk_Ks s n0) (tk_Ps s n0) (tk_Vs s n0) (0, 0, 0, [], sp_ld0, sp_nm0, []) (.inr f) ∧ (¬ f = 0 → lc_F I L R Y I' L' R' Y') ∧ (f = 0 → ∃ a ld nm cs, (sp_R (tk_Ks s n0) (tk_Ps s n0) (tk_Vs s n0) (0, 0, 0, [], sp_ld0, sp_nm0, []) (.inl (2, a, 0, [], ld, nm, cs)) ∧ tk_Ks s n0 a = 0) ∧ ∃ da pe ev n T : Nat, ((ld 0 = (da : Int) ∧ ld 1 = (pe : Int) ∧ ld 2 = (ev : Int)) ∧ T = (if pe = 0 ∨ ev = 0 then 1 else ev ^ (da * pe)) ∧ n = (T + 63) / 64) ∧ lc_G I L R Y I' L' R' Y' ∧ lc_E I' L' R' Y' Y.2.2 da pe ev n T ld nm cs)) := by
  have hN := hA.2.2.2
  refine yi_P_of (M := zi_m162) rfl (fun d k => ?_)
  show yi_D zi_Ms d zi_m162 k (0, [(0, .inr (.inr (some 10)))], [], (I, L, R, Y), 0, 0) _
  refine yi_D_run 1 (1, [(0, .inr (.inr (some 10)))], [.inr (.inr (some 10))], (I, L, R, Y), 0, 0) (fun _ => rfl) ?_
  refine yi_D_gr (v := some 12) rfl rfl rfl (at_r hA (j := 1) rfl) (fun _ => ?_)
  refine yi_D_callv rfl (p_cut hX hn h5 hs hb hk hw18) ?_
  rintro _ ⟨I1, L2, rfl, hT3, h4, fI5, fL6⟩
  show yi_D zi_Ms d zi_m162 k (7, [(0, .inr (.inr (some 10)))], [], (I1, L2, R, Y), 0, 0) _
  refine yi_D_new3 rfl (fun q I8 L9 R10 Y11 m12 mk13 hn13 hl13 hk13 => ?_)
  have hK11 : cz_K R10 Y11 := cz_K_n hK mk13 hn13
  obtain ⟨k14, k15, k16, k17, k18, k19⟩ := mk13
  refine yi_D_run 1 (11, [(0, .inr (.inr (some 10)))], [.inr (.inr (some q)), .inr (.inr (some q))], (I8, L9, R10, Y11), (0 + 1), m12) (fun _ => rfl) ?_
  refine yi_D_callp rfl rfl (yi_P_a (yi_P_a (p_initLand2 (by omega) k19 k16) (p_initLandP (by omega) k19)) (cz_P hK11 (by decide +kernel) (cy_ve rfl (cy_c (cy_p (by omega)) cy_0)))) ?_
  rintro _ ⟨⟨⟨I20, L21, R22, Y23, n24, m25, rfl, hN26, f27, f28, f29, f30, f31⟩, ⟨I2, L2x, R2, Y2, n2, m2, eq, pr1, pr2, pr3, pr4, pr5⟩⟩, hK23⟩
  have b1 : I20 = I2 := congrArg (fun z : yi_R => z.2.1.1) eq
  have b2 : R22 = R2 := congrArg (fun z : yi_R => z.2.1.2.2.1) eq
  have b3 : Y23 = Y2 := congrArg (fun z : yi_R => z.2.1.2.2.2) eq
  subst b1 b2 b3
  have hK23 : cz_K R22 Y23 := hK23
  show yi_D zi_Ms d zi_m162 k (14, [(0, .inr (.inr (some 10)))], [.inr (.inr (some q))], (I20, L21, R22, Y23), ((0 + 1) + n24), (m12 + m25)) _
  refine yi_D_run 2 (16, [(1, .inr (.inr (some q))), (0, .inr (.inr (some 10)))], [.inr (.inr (some 10))], (I20, L21, R22, Y23), ((0 + 1) + n24), (m12 + m25)) (fun _ => rfl) ?_
  refine yi_D_gr (v := some 11) rfl rfl rfl (by rw [f29 10 0 (by omega), (k15 10 0 (by omega)).2.2]; exact at_r hA (j := 0) rfl) (fun _ => ?_)
  refine yi_D_run 1 (20, [(1, .inr (.inr (some q))), (0, .inr (.inr (some 10)))], [.inr (.inr (some q)), .inr (.inr (some 11))], (I20, L21, R22, Y23), ((0 + 1) + n24), (m12 + m25)) (fun _ => rfl) ?_
  have hS3 : cs_S R22 Y23 := by
    have r : ∀ p k, p < 20 → R22 p k = R p k := fun p k hp => by rw [f29 p k (by omega), (k15 p k (by omega)).2.2]
    have y : ∀ p, p < 20 → Y23.2.1 p = Y.2.1 p := fun p hp => by rw [(f31 p (by omega)).1, (k17 p (by omega)).2]
    unfold cs_S
    rw [r 11 0 (by omega), r 11 1 (by omega), r 11 2 (by omega), r 12 0 (by omega), r 12 1 (by omega), r 12 2 (by omega), r 12 3 (by omega), r 12 4 (by omega), y 13 (by omega), y 14 (by omega), y 15 (by omega), y 16 (by omega), y 17 (by omega), y 18 (by omega), y 19 (by omega)]
    exact hX.1
  have hT3 : cs_T I20 L21 (tk_Ks s n0) (tk_Ps s n0) (tk_Vs s n0) (tk_te s n0) := by
    have e1 : ∀ p k, p < 20 → I20 p k = I1 p k := fun p k hp => by rw [f27 p k (by omega), (k15 p k (by omega)).1]
    have e2 : ∀ p k, p < 20 → L21 p k = L2 p k := fun p k hp => by rw [f28 p k (by omega), (k15 p k (by omega)).2.1]
    obtain ⟨a1, a2, a3, a4⟩ := hT3
    refine ⟨a1, by rw [e1 12 6 (by omega)]; exact a2, fun i hi => ?_, by rw [e2 18 0 (by omega), e2 18 1 (by omega), e2 18 2 (by omega)]; exact a4⟩
    rw [e1 14 i (by omega), e1 15 i (by omega), e2 16 i (by omega)]
    exact a3 i hi
  refine yi_D_callv rfl (yi_P_a (p_readLandC ⟨hS3, hT3⟩ hN26 ⟨pr1, pr2, pr3, pr4⟩) (cz_P hK23 (by decide +kernel) (cy_ve rfl (cy_c (cy_p (by omega)) (cy_c (cy_p (by omega)) cy_0))))) ?_
  rintro _ ⟨⟨I32, L33, R34, Y35, n36, m37, f38, rfl, hB39, hsp40, hz41⟩, hK35⟩
  have hK35 : cz_K R34 Y35 := hK35
  have hN35 : q + 14 ≤ Y35.2.2 := by have := hB39.2.2.1; omega
  have fR35 : ∀ p k, p < Y.2.2 → ¬ (p = 11 ∧ k = 6) → R34 p k = R p k := fun p k hp h => by rw [hB39.2.1 p k ⟨by omega, by omega, h⟩, f29 p k (by omega), (k15 p k (by omega)).2.2]
  have fY35 : ∀ p, p < Y.2.2 → Y35.1 p = Y.1 p ∧ Y35.2.1 p = Y.2.1 p := fun p hp => by
    have a := hB39.2.2.2 p (by omega)
    have b := f31 p (by omega)
    have c := k17 p (by omega)
    exact ⟨a.2.trans (b.2.trans c.1), a.1.trans (b.1.trans c.2)⟩
  have fI35 : ∀ p k, p < Y.2.2 → ¬ (p = 11 ∨ p = 12 ∨ p = 14 ∨ p = 15 ∨ p = 19) → I32 p k = I p k := fun p k hp h => by rw [(hB39.1 p k (by omega) (by omega) (by omega) (by omega)).1, f27 p k (by omega), (k15 p k (by omega)).1, fI5 p k (by omega)]
  have fL35 : ∀ p k, p < Y.2.2 → ¬ p = 11 → ¬ p = 16 → ¬ p = 19 → L33 p k = L p k := fun p k hp h1 h2 h3 => by rw [(hB39.1 p k (by omega) h1 h3 (by omega)).2, f28 p k (by omega), (k15 p k (by omega)).2.1, fL6 p k h2]
  have hNN : Y.2.2 ≤ Y35.2.2 := by omega
  show yi_D zi_Ms d zi_m162 k (23, [(1, .inr (.inr (some q))), (0, .inr (.inr (some 10)))], [.inl f38], (I32, L33, R34, Y35), (((0 + 1) + n24) + n36), ((m12 + m25) + m37)) _
  refine yi_D_run 2 (25, [(2, .inl f38), (1, .inr (.inr (some q))), (0, .inr (.inr (some 10)))], [.inl f38], (I32, L33, R34, Y35), (((0 + 1) + n24) + n36), ((m12 + m25) + m37)) (fun _ => rfl) ?_
  by_cases h42 : f38 = 0
  · refine yi_D_if1 true rfl (yi_eq_t h42) ?_
    refine yi_D_run 2 (32, [(2, .inl f38), (1, .inr (.inr (some q))), (0, .inr (.inr (some 10)))], [.inr (.inr (some q)), .inr (.inr (some 10))], (I32, L33, R34, Y35), (((0 + 1) + n24) + n36), ((m12 + m25) + m37)) (fun _ => rfl) ?_
    have h10 : Y35.1 10 = 0 := (fY35 10 (by omega)).1.trans (at_k hA (j := 0) rfl)
    have hK43 : cz_K (cl_u R34 10 16 (some q)) Y35 := cz_K_u hK35 (by omega) (by omega)
    have pr44 : cl_u R34 10 16 (some q) 10 16 = some q := cl_u_eq _ _ _ _
    have pr45 : ∀ p k, ¬ (p = 10 ∧ k = 16) → cl_u R34 10 16 (some q) p k = R34 p k := fun p k h => cl_u_ne _ _ h
    refine yi_D_prw rfl (fun _ => ?_)
    generalize cl_u R34 10 16 (some q) = R43 at hK43 pr44 pr45 ⊢
    obtain ⟨a, ld, nm, cs, u, hsp, hKa, hW, hln, hu⟩ := hz41 h42
    have hok := sp_ok_R sp_ok_0 sp_st_0 hsp
    obtain ⟨⟨da, pe, ev, hl, bld, -, hz⟩, -⟩ := hok
    have hl : ld 0 = (da : Int) ∧ ld 1 = (pe : Int) ∧ ld 2 = (ev : Int) ∧ 0 ≤ ld 3 := hl
    have hz : ∀ x ∈ cs, x.1 = 11 → okz da pe ev x.2 := hz
    have hbg : 0 < ev → ev ^ (da * pe) ≤ 32768 := sp_bg_T (sp_bg_R sp_bg_0 sp_st_0 hsp) hl.1 hl.2.1 hl.2.2.1
    have hF := hwf a ld nm cs hsp hKa
    obtain ⟨T, hT⟩ : ∃ T, T = if pe = 0 ∨ ev = 0 then 1 else ev ^ (da * pe) := ⟨_, rfl⟩
    obtain ⟨n, hnn⟩ : ∃ n, n = (T + 63) / 64 := ⟨_, rfl⟩
    have hT2 : T ≤ 32768 := by
      rw [hT]
      split
      · omega
      · exact hbg (by omega)
    have hT1 : 1 ≤ T := by
      rw [hT]
      split
      · exact Nat.le_refl _
      · exact Nat.pow_pos (by omega)
    have hTn : T ≤ 64 * n := by omega
    have hLd := hW.2.2
    obtain ⟨⟨c20, c6, cr, c14⟩, ⟨i14, i15, i16, i17, i18, i19⟩, ⟨b0, b1, b2, b3, b4, b5⟩, -⟩ := id hLd
    obtain ⟨hA43, hy43, hh43⟩ := lc_T (N := 0) (R' := R43) (Y' := Y35) hA hy hh (fun p k hp h1 h2 => (pr45 p k h2).trans (fR35 p k hp h1)) hNN fY35
    have ky : ∀ p, p < q + 14 → Y35.1 p = Y23.1 p ∧ Y35.2.1 p = Y23.2.1 p := fun p hp => ⟨(hB39.2.2.2 p (by omega)).2, (hB39.2.2.2 p (by omega)).1⟩
    have kq : Y35.1 q = 3 := (ky q (by omega)).1.trans (pr5.1.trans hk13)
    have k20 : ∀ j, 4 ≤ j → j ≤ 13 → Y35.1 (q + j) = 20 := fun j h1 h2 => by
      rw [(ky (q + j) (by omega)).1, pr5.2.1 j (by omega) h2]
      exact if_neg (by omega)
    have k19 : Y35.1 19 = 20 := at_nk hA43 (j := 6) rfl
    have l19 : Y35.2.1 19 = 1002 := at_n hA43 (j := 6) rfl
    have hqN : q = Y.2.2 := k14
    have cr' : ∀ j, j < 12 → R43 q j = some (q + 1 + j) := fun j hj => (pr45 q j (by omega)).trans (cr j hj)
    have e4 : ld 4 = (((ld 4).toNat : Nat) : Int) := by omega
    have e5 : ld 5 = (((ld 5).toNat : Nat) : Int) := by omega
    have e3 : ld 3 = (((ld 3).toNat : Nat) : Int) := by omega
    have hlaw : ∀ j, j < (ld 4).toNat → _ := fun j hj => lc_law (n := n) (T := T) hln hF hz hl.1 bld hTn (j := j) (by omega)
    have hwish : ∀ w, w < (ld 5).toNat → _ := fun w hw => lc_wish (n := n) (T := T) hln hF hz hl.1 bld hTn (w := w) (by omega)
    refine yi_D_run 1 (36, [(2, .inl f38), (1, .inr (.inr (some q))), (0, .inr (.inr (some 10)))], [.inr (.inr (some 10))], (I32, L33, R43, Y35), (((0 + 1) + n24) + n36), ((m12 + m25) + m37)) (fun _ => rfl) ?_
    refine yi_D_gr (v := some 34) rfl rfl rfl (at_r hA43 (j := 2) rfl) (fun _ => ?_)
    refine yi_D_run 2 (41, [(2, .inl f38), (1, .inr (.inr (some q))), (0, .inr (.inr (some 10)))], [.inr (.inr (some 10)), .inr (.inr (some q)), .inr (.inr (some 34))], (I32, L33, R43, Y35), (((0 + 1) + n24) + n36), ((m12 + m25) + m37)) (fun _ => rfl) ?_
    refine yi_D_gr (v := some 11) rfl rfl rfl (at_r hA43 (j := 0) rfl) (fun _ => ?_)
    refine yi_D_gr (v := some 19) rfl rfl rfl (at_r hA43 (j := 18) rfl) (fun _ => ?_)
    refine yi_D_callv rfl (p_build hA43 hK43 hy43 hh43 (q := q) (Q := 19) (da := da) (pe := pe) (ev := ev) (lw := (ld 4).toNat) (ws := (ld 5).toNat) (n := n) (T := T) (lb := q + 9) (le := q + 10) (wb := q + 11) (we := q + 12) ⟨by omega, by omega, kq⟩ ⟨i14.trans hl.1, i15.trans hl.2.1, i16.trans hl.2.2.1, i18.trans e4, i19.trans e5⟩ bld ⟨by omega, by omega⟩ ⟨cr' 8 (by omega), cr' 9 (by omega), cr' 10 (by omega), cr' 11 (by omega)⟩ (fun p hp => by
      rcases hp with e | e | e | e | e
      · rw [e]; exact ⟨by omega, by omega, k20 9 (by omega) (by omega), by omega⟩
      · rw [e]; exact ⟨by omega, by omega, k20 10 (by omega) (by omega), by omega⟩
      · rw [e]; exact ⟨by omega, by omega, k20 11 (by omega) (by omega), by omega⟩
      · rw [e]; exact ⟨by omega, by omega, k20 12 (by omega) (by omega), by omega⟩
      · rw [e]; exact ⟨by omega, by omega, k19, by omega⟩) (lf := fun j => (I32 (q + 9) j).toNat) (lm := fun j => (sl ld cs j).length) (wf := fun w => (I32 (q + 11) w).toNat) (wm := fun w => (sw ld cs w).length + (wtw ld cs w).length) (fun j hj => (hlaw j hj).1) (fun w hw => (hwish w hw).1) ⟨by omega, fun j hj => by have := (hlaw j hj).2.1; show (I32 (q + 9) j).toNat + (sl ld cs j).length ≤ _; omega, fun w hw => by have := (hwish w hw).2.1; show (I32 (q + 11) w).toNat + ((sw ld cs w).length + (wtw ld cs w).length) ≤ _; omega⟩ (cd := fun k => (I32 19 k).toNat) (fun j hj k hk => (hlaw j hj).2.2.1 k hk) (fun w hw k hk => (hwish w hw).2.2.1 k hk) (lv := fun j => vB da pe ev 0 (sl ld cs j)) (wv := fun w => wB da pe ev (kw ld w) (sw ld cs w)) (fun j hj => (hlaw j hj).2.2.2) (fun w hw => (hwish w hw).2.2.2) hT hT2 hnn) ?_
    rintro _ ⟨I47, L48, R49, Y50, n51, m52, rfl, hP, hb35, hbw⟩
    obtain ⟨⟨hA49, hK49, hy49, hh49⟩, hBF, h34, hwords⟩ := id hP
    obtain ⟨g1, g2, g3, g4, g5⟩ := id hBF
    have hR49 : ∀ p k, p < Y35.2.2 → ¬ bd_r R43 p → ¬ p = 39 → ¬ p = 40 → R49 p k = R43 p k := fun p k hp hr h1 h2 => ((g1 p k hp).1 hr).2 h1 h2
    have hI49 : ∀ p k, p < Y35.2.2 → ¬ bd_r R43 p → ¬ p = 34 → I47 p k = I32 p k := fun p k hp hr h1 => ((g1 p k hp).1 hr).1 h1
    have nr : ∀ p, ¬ Y35.1 p = 5 → ¬ bd_r R43 p := fun p h hr => h (bd_r_k hA43 hy43 hr).2.2
    have nrq : ∀ p, q ≤ p → p ≤ q + 13 → ¬ bd_r R43 p := fun p h1 h2 hr => by
      rcases bd_r_k hA43 hy43 hr with ⟨-, z2, z3⟩
      by_cases e : p = q
      · rw [e] at z3; omega
      · have z := pr5.2.1 (p - q) (by omega) (by omega)
        rw [show q + (p - q) = p by omega, ← (ky p (by omega)).1, z3] at z
        split at z <;> omega
    show yi_D zi_Ms d zi_m162 k (50, [(2, .inl f38), (1, .inr (.inr (some q))), (0, .inr (.inr (some 10)))], [], (I47, L48, R49, Y50), ((((0 + 1) + n24) + n36) + n51), (((m12 + m25) + m37) + m52)) _
    refine yi_D_run 1 (51, [(2, .inl f38), (1, .inr (.inr (some q))), (0, .inr (.inr (some 10)))], [.inr (.inr (some 10))], (I47, L48, R49, Y50), ((((0 + 1) + n24) + n36) + n51), (((m12 + m25) + m37) + m52)) (fun _ => rfl) ?_
    refine yi_D_gr (v := some 50) rfl rfl rfl (at_r hA49 (j := 6) rfl) (fun _ => ?_)
    refine yi_D_run 1 (55, [(2, .inl f38), (1, .inr (.inr (some q))), (0, .inr (.inr (some 10)))], [.inr (.inr (some q)), .inr (.inr (some 50))], (I47, L48, R49, Y50), ((((0 + 1) + n24) + n36) + n51), (((m12 + m25) + m37) + m52)) (fun _ => rfl) ?_
    have i17b : I47 q 17 = (((ld 3).toNat : Nat) : Int) := by rw [hI49 q 17 (by omega) (nrq q (by omega) (by omega)) (by omega), i17]; exact e3
    have r5 : R49 q 5 = some (q + 6) := by rw [hR49 q 5 (by omega) (nrq q (by omega) (by omega)) (by omega) (by omega)]; exact cr' 5 (by omega)
    refine yi_D_callv rfl (p_beginS hA49 (q := q) (pr := (ld 3).toNat) (by omega) i17b (by omega) r5) ?_
    rintro _ ⟨I53, R55, rfl, s1, s2, s3, s4, s5, s6⟩
    have hA55 : at_T R55 Y50 := at_T_t hA49 (fun x hx => by
      have b : ∀ x ∈ at_L, ¬ (x.1 = 50 ∧ x.2.1 = 5) := by decide
      exact s6 _ _ (b x hx)) (Nat.le_refl _) (fun _ _ => ⟨rfl, rfl⟩)
    show yi_D zi_Ms d zi_m162 k (58, [(2, .inl f38), (1, .inr (.inr (some q))), (0, .inr (.inr (some 10)))], [], (I53, L48, R55, Y50), ((((0 + 1) + n24) + n36) + n51), (((m12 + m25) + m37) + m52)) _
    refine yi_D_run 1 (59, [(2, .inl f38), (1, .inr (.inr (some q))), (0, .inr (.inr (some 10)))], [.inr (.inr (some 10))], (I53, L48, R55, Y50), ((((0 + 1) + n24) + n36) + n51), (((m12 + m25) + m37) + m52)) (fun _ => rfl) ?_
    refine yi_D_callv rfl (p_forgetPast hA55) ?_
    rintro _ ⟨I59, rfl, z1, z2, z3⟩
    show yi_D zi_Ms d zi_m162 k (62, [(2, .inl f38), (1, .inr (.inr (some q))), (0, .inr (.inr (some 10)))], [], (I59, L48, R55, Y50), ((((0 + 1) + n24) + n36) + n51), (((m12 + m25) + m37) + m52)) _
    refine yi_D_run 2 (64, [(3, .inl 0), (2, .inl f38), (1, .inr (.inr (some q))), (0, .inr (.inr (some 10)))], [], (I59, L48, R55, Y50), ((((0 + 1) + n24) + n36) + n51), (((m12 + m25) + m37) + m52)) (fun _ => rfl) ?_
    have pt64 : ∀ j64, j64 ≤ k → ∀ (y3 : Int) (R1 : Nat → Nat → Option Nat), (0 ≤ y3 ∧ y3 ≤ 4) → (∀ m : Nat, (m : Int) < y3 → R1 57 m = none) → (∀ p k, ¬ p = 57 → R1 p k = R55 p k) → (∀ p k x, R1 p k = some x → R49 p k = some x) → yi_D zi_Ms d zi_m162 j64 (64, [(3, .inl y3), (2, .inl f38), (1, .inr (.inr (some q))), (0, .inr (.inr (some 10)))], [], (I59, L48, R1, Y50), ((((0 + 1) + n24) + n36) + n51), (((m12 + m25) + m37) + m52)) (fun r => ∃ f I' L' R' Y' n' m', r = (some (.inl f), (I', L', R', Y'), n', m') ∧ sp_R (tk_Ks s n0) (tk_Ps s n0) (tk_Vs s n0) (0, 0, 0, [], sp_ld0, sp_nm0, []) (.inr f) ∧ (¬ f = 0 → lc_F I L R Y I' L' R' Y') ∧ (f = 0 → ∃ a ld nm cs, (sp_R (tk_Ks s n0) (tk_Ps s n0) (tk_Vs s n0) (0, 0, 0, [], sp_ld0, sp_nm0, []) (.inl (2, a, 0, [], ld, nm, cs)) ∧ tk_Ks s n0 a = 0) ∧ ∃ da pe ev n T : Nat, ((ld 0 = (da : Int) ∧ ld 1 = (pe : Int) ∧ ld 2 = (ev : Int)) ∧ T = (if pe = 0 ∨ ev = 0 then 1 else ev ^ (da * pe)) ∧ n = (T + 63) / 64) ∧ lc_G I L R Y I' L' R' Y' ∧ lc_E I' L' R' Y' Y.2.2 da pe ev n T ld nm cs)) := by
      intro j64
      induction j64 with
      | zero => intros; exact yi_D_0
      | succ j64 ih64 =>
      intro hk64 y3 R1 hy3 hm1 hf1 hs1
      have hA1 : at_T R1 Y50 := at_T_t hA55 (fun x hx => by
        have b : ∀ x ∈ at_L, ¬ x.1 = 57 := by decide
        exact hf1 _ _ (b x hx)) (Nat.le_refl _) (fun _ _ => ⟨rfl, rfl⟩)
      refine yi_D_run1 1 (66, [(3, .inl y3), (2, .inl f38), (1, .inr (.inr (some q))), (0, .inr (.inr (some 10)))], [.inr (.inr (some 10)), .inl y3], (I59, L48, R1, Y50), ((((0 + 1) + n24) + n36) + n51), (((m12 + m25) + m37) + m52)) (fun _ => rfl) ?_
      refine yi_D_gr (v := some 57) rfl rfl rfl (at_r hA1 (j := 8) rfl) (fun _ => ?_)
      refine yi_D_len (v := 4) rfl rfl (at_ni hA1 (j := 18) rfl) ?_
      by_cases h66 : 4 ≤ y3
      · refine yi_D_if2 true rfl (yi_ge_t h66) ?_
        refine yi_D_run 1 (87, [(3, .inl y3), (2, .inl f38), (1, .inr (.inr (some q))), (0, .inr (.inr (some 10)))], [.inr (.inr (some 10))], (I59, L48, R1, Y50), ((((0 + 1) + n24) + n36) + n51), (((m12 + m25) + m37) + m52)) (fun _ => rfl) ?_
        have hm4 : ∀ m, m < 4 → R1 57 m = none := fun m hm => hm1 m (by omega)
        have hfi : ∀ p k, ¬ (p = 50 ∨ p = 52 ∨ p = 53) → ¬ (p = 10 ∧ (k = 17 ∨ k = 18)) → I59 p k = I47 p k := fun p k h1 h2 => (z3 p k h2).trans (s5 p k h1)
        have hfr : ∀ p k, ¬ p = 57 → ¬ (p = 50 ∧ k = 5) → R1 p k = R49 p k := fun p k h1 h2 => (hf1 p k h1).trans (s6 p k h2)
        have hN50 : q + 14 ≤ Y50.2.2 := by omega
        have hrk : ∀ f, (f = 35 ∨ 110 ≤ f) → ∀ v, rb_S I47 L48 R49 Y50 f n v → rb_S I59 L48 R1 Y50 f n v := fun f hf v h => by
          obtain ⟨c, hw, h1, h2⟩ := h
          exact ⟨c, rw_S_t hw (hfi f 1 (by omega) (by omega)) (hfr f 0 (by omega) (by omega)) (Nat.le_refl _) (fun _ _ => ⟨rfl, rfl⟩), h1, h2⟩
        have hK1 : cz_K R1 Y50 := lc_Ks hK49 hs1
        have e39 : ∀ i, R43 39 i = R 39 i := fun i => (pr45 39 i (by omega)).trans (fR35 39 i (by omega) (by omega))
        have e40 : ∀ i, R43 40 i = R 40 i := fun i => (pr45 40 i (by omega)).trans (fR35 40 i (by omega) (by omega))
        have bdr : ∀ f, bd_r R43 f → bd_r R f := fun f => bd_r_e e39 e40
        have bdk : ∀ f, bd_r R43 f → (f = 35 ∨ f = 41 ∨ 110 ≤ f) ∧ f < Y.2.2 := fun f h => ⟨(bd_r_k hA hy (bdr f h)).1, (bd_r_k hA hy (bdr f h)).2.1⟩
        have cell : ∀ f c, bd_r R43 f → R43 f 0 = some c → c < q := fun f c h e => by
          have z := bdk f h
          rw [pr45 f 0 (by omega), fR35 f 0 z.2 (by omega)] at e
          have y : c < Y.2.2 := ((hK I L).1 f 0 c z.2 e).1
          omega
        obtain ⟨c, hc⟩ := h58
        have k58 : Y50.1 58 = 5 := at_k hA1 (j := 11) rfl
        have n58 : ¬ bd_r R43 58 := fun h => by have := (bdk 58 h).1; omega
        have hc1 : R1 58 0 = some c := by rw [hfr 58 0 (by omega) (by omega), hR49 58 0 (by omega) n58 (by omega) (by omega), pr45 58 0 (by omega), fR35 58 0 (by omega) (by omega)]; exact hc
        have kc := cz_Kj hK1 (by omega) k58 hc1
        have hcq : c < q := by
          have y : c < Y.2.2 := ((hK I L).1 58 0 c (show 58 < Y.2.2 by omega) hc).1
          omega
        obtain ⟨cl, hl1, hl2, hl3⟩ := hrk 35 (Or.inl rfl) _ hb35
        have ncl : ¬ c = cl := fun e => by
          have z := kc.2.2 35 (by omega) hl1.1.2.2.2.2.1 (by rw [hl1.2.1, e])
          omega
        have wk : ∀ d x e, d < da → x < pe → e < ev → ∃ f, (R1 39 (16 * d + 4 * x + e) = some f ∧ 110 ≤ f) ∧ rb_S I59 L48 R1 Y50 f n (fun z => decide (z < T ∧ z / ev ^ (da * pe - 1 - (pe * d + x)) % ev = e)) := fun d x e hd hx he => by
          obtain ⟨f, f1, f2⟩ := hwords d x e hd hx he
          have z := (hy49.1 (16 * d + 4 * x + e) f (by omega) f1).1.1
          exact ⟨f, ⟨(hfr 39 _ (by omega) (by omega)).trans f1, z⟩, hrk f (Or.inr z) _ f2⟩
        have hwd : wd_C I59 L48 R1 Y50 n da pe ev (wW L48 R1 pe ev) 58 c := fun d x e hd hx he => by
          obtain ⟨f, ⟨f1, f2⟩, cw, g1, -, -⟩ := wk d x e hd hx he
          refine ⟨f, cw, f1, g1, fun k _ => (wW_at hx he f1 g1.2.1).symm, by omega, fun z => ?_⟩
          have y := kc.2.2 f g1.1.2.2.1 g1.1.2.2.2.2.1 (by rw [g1.2.1, z])
          omega
        have h16 : R1 10 16 = some q := by rw [hfr 10 16 (by omega) (by omega), hR49 10 16 (by omega) (nr 10 (by omega)) (by omega) (by omega)]; exact pr44
        have iq : ∀ p k, q ≤ p → ¬ bd_r R43 p → p < Y35.2.2 → I59 p k = I32 p k := fun p k h1 h2 h3 => (hfi p k (by omega) (by omega)).trans (hI49 p k h3 h2 (by omega))
        have nq := nrq q (by omega) (by omega)
        refine yi_D_callv rfl (p_refreshLeft (A := wA L48 R1) (cm := fun _ => -1) (W := wW L48 R1 pe ev) (t := 0) (rows := fun _ _ => 0) hA1 h16 (by omega) (by omega) ((iq q 14 (by omega) nq (by omega)).trans (i14.trans hl.1)) ((iq q 15 (by omega) nq (by omega)).trans (i15.trans hl.2.1)) ((iq q 16 (by omega) nq (by omega)).trans (i16.trans hl.2.2.1)) bld ⟨by omega, kc.2.1.2.2, kc.2.1.2.1⟩ hc1 hl1 (fun k _ => (wA_at hl1.2.1).symm) ncl hwd (fun d x hd hx => ((z3 53 _ (by omega)).trans (s3 _ (by omega)))) (fun _ _ => Or.inl rfl) (by omega) ((z3 50 6 (by omega)).trans s2.1) (by omega) (fun i hi => absurd hi (by omega))) ?_
        rintro _ ⟨I67, L68, R69, Y70, n71, m72, c', rfl, hz9, hg9, hf9⟩
        show yi_D zi_Ms d zi_m162 j64 (90, [(3, .inl y3), (2, .inl f38), (1, .inr (.inr (some q))), (0, .inr (.inr (some 10)))], [], (I67, L68, R69, Y70), (((((0 + 1) + n24) + n36) + n51) + n71), ((((m12 + m25) + m37) + m52) + m72)) _
        refine yi_D_run 1 (91, [(3, .inl y3), (2, .inl f38), (1, .inr (.inr (some q))), (0, .inr (.inr (some 10)))], [.inl 0], (I67, L68, R69, Y70), (((((0 + 1) + n24) + n36) + n51) + n71), ((((m12 + m25) + m37) + m52) + m72)) (fun _ => rfl) ?_
        refine yi_D_reti rfl ?_
        have hE : rs_E 58 I59 L48 R1 Y50 I67 L68 R69 Y70 := rz_rs hc1 hz9 (fun x k hx h1 _ => hf9 x k hx (fun z => h1 z.1))
        obtain ⟨⟨y1, y2, y3', y4, y5, y6⟩, yf, ⟨yN, yY⟩, yc⟩ := id hz9
        have hc'q : c' < q ∨ Y50.2.2 ≤ c' := by
          rcases yc with ⟨z, -⟩ | ⟨z, -⟩ <;> omega
        have rR : ∀ p k, p < Y50.2.2 → ¬ (p = 58 ∧ k = 0) → R69 p k = R1 p k := fun p k h1 h2 => (yf p k h1).2 h2
        have rI : ∀ p k, p < Y50.2.2 → ¬ (p = 58 ∧ k = 1) → I67 p k = I59 p k := fun p k h1 h2 => (yf p k h1).1 h2
        have rb : ∀ f, (f = 35 ∨ 110 ≤ f) → ∀ v, rb_S I59 L48 R1 Y50 f n v → rb_S I67 L68 R69 Y70 f n v := fun f hf v h => rs_rb hK1 ⟨by omega, k58⟩ hE (by omega) h
        have k39 : ∀ i, R69 39 i = R49 39 i := fun i => (rR 39 i (by omega) (by omega)).trans (hfr 39 i (by omega) (by omega))
        have k40 : ∀ i, R69 40 i = R49 40 i := fun i => (rR 40 i (by omega) (by omega)).trans (hfr 40 i (by omega) (by omega))
        have kY : ∀ p, p < Y35.2.2 → Y70.1 p = Y35.1 p ∧ Y70.2.1 p = Y35.2.1 p := fun p hp => ⟨(yY p (by omega)).1.trans (g5 p hp).1, (yY p (by omega)).2.trans (g5 p hp).2⟩
        have fq : ∀ p k, q ≤ p → p ≤ q + 13 → I67 p k = I32 p k ∧ L68 p k = L33 p k ∧ R69 p k = R34 p k := fun p k h1 h2 => by
          have np := nrq p h1 h2
          refine ⟨(rI p k (by omega) (by omega)).trans (iq p k h1 np (by omega)), ?_, ?_⟩
          · rw [hf9 p k (by omega) (fun z => by omega)]
            exact (g1 p k (by omega)).2 (fun ⟨f, h3, h4⟩ => by have := cell f p h3 h4; omega) (by omega)
          · rw [rR p k (by omega) (by omega), hfr p k (by omega) (by omega), hR49 p k (by omega) np (by omega) (by omega), pr45 p k (by omega)]
        have hG : lc_G I L R Y I67 L68 R69 Y70 := by
          refine ⟨fun p k hp h1 h2 h3 h4 => ?_, fun p k hp h1 h2 h3 => ?_, fun p k hp h1 h2 h3 h4 h5 h6 => ?_, ⟨by omega, fun p hp => ⟨(kY p (by omega)).1.trans (fY35 p hp).1, (kY p (by omega)).2.trans (fY35 p hp).2⟩⟩, fun f h => ?_, fun f c2 h e => ?_⟩
          · rw [rI p k (by omega) h4, hfi p k (by omega) h3, hI49 p k (by omega) (fun z => h1 (bdr p z)) (by omega)]
            exact fI35 p k hp (by omega)
          · rw [hf9 p k (by omega) (fun z => by
              rcases yc with ⟨w, -⟩ | ⟨w, -⟩
              · exact h2 (by rw [hc, ← w, ← z.1])
              · omega), (g1 p k (by omega)).2 (fun ⟨f, w1, w2⟩ => h1 ⟨f, bdr f w1, by
              have w := bdk f w1
              rw [pr45 f 0 (by omega), fR35 f 0 w.2 (by omega)] at w2
              exact w2⟩) (by omega)]
            exact fL35 p k hp (by omega) (by omega) (by omega)
          · rw [rR p k (by omega) h6, hfr p k (by omega) h5, hR49 p k (by omega) (fun z => h1 (bdr p z)) (by omega) (by omega), pr45 p k h4]
            exact fR35 p k hp h3
          · rcases g2 f (bd_r_e k39 k40 h) with z | z
            · exact Or.inl (bdr f z)
            · exact Or.inr (by omega)
          · have h9 := bd_r_e k39 k40 h
            have w := (bd_r_k hA49 hy49 h9)
            rw [rR f 0 w.2.1 (by omega), hfr f 0 (by omega) (by omega)] at e
            rcases g3 f c2 h9 e with ⟨z1, z2⟩ | z
            · have y := bdk f z1
              rw [pr45 f 0 (by omega), fR35 f 0 y.2 (by omega)] at z2
              exact Or.inl ⟨bdr f z1, z2⟩
            · exact Or.inr (by omega)
        have hPr : ln_Pr I67 R69 Y70 q ld cs := by
          obtain ⟨pp, ⟨p1, p2, p3, p4⟩, h⟩ := hln.2.2.2
          have np := nr pp (by omega)
          have ip : ∀ k, I67 pp k = I32 pp k := fun k => (rI pp k (by omega) (by omega)).trans (iq pp k (by omega) np p3)
          refine ⟨pp, ⟨(fq q 12 (by omega) (by omega)).2.2.trans p1, p2, by omega, (kY pp p3).1.trans p4⟩, ?_⟩
          rcases h with ⟨h1, h2, h3⟩ | ⟨h1, h2, h3, h4⟩
          · exact Or.inl ⟨h1, (kY pp p3).2.trans h2, (ip 0).trans h3⟩
          · exact Or.inr ⟨h1, h2, (kY pp p3).2.trans h3, fun k hk => (ip k).trans (h4 k hk)⟩
        have hcl' : ¬ cl = c' := fun e => by
          rcases yc with ⟨w, -⟩ | ⟨w, -⟩
          · exact ncl (by rw [e, w])
          · have := hl1.1.2.2.2.1; omega
        refine ⟨0, I67, L68, R69, Y70, _, _, rfl, h42 ▸ hsp40, fun h => absurd rfl h, fun _ => ⟨a, ld, nm, cs, ⟨hsp, hKa⟩, da, pe, ev, n, T, ⟨⟨hl.1, hl.2.1, hl.2.2.1⟩, hT, hnn⟩, hG, ?_⟩⟩
        rw [← hqN]
        refine ⟨⟨⟨at_T_t hA1 (fun x hx => ?_) yN yY, lc_wy hy49 k39 k40 (fun f h1 h2 => (rR f 0 h2 (by omega)).trans (hfr f 0 (by omega) (by omega))) yN yY⟩, (rR 10 16 (by omega) (by omega)).trans h16, by omega, by omega, (kY q (by omega)).1.trans kq⟩, ⟨lq_C_t ⟨R34, fun _ _ _ => rfl, hLd⟩ fq (fun p hp => (kY p hp).2) (by omega), fun w hw => ?_, hPr⟩, ⟨?_, ?_, ?_, ?_⟩, ⟨rb 35 (Or.inl rfl) _ ⟨cl, hl1, hl2, hl3⟩, fun d x e hd hx he => ?_, fun w hw => ?_⟩, ⟨?_, ⟨?_, ?_, ?_⟩, fun k hk => ?_, fun k hk => ?_⟩, ⟨?_, ?_, fun m hm => ?_⟩, c', ⟨⟨by omega, y4, by omega, y5, (yY 58 (by omega)).1.trans k58, y6⟩, y1, y2, y3', by omega⟩, fun k hk => ?_⟩
        · have b : ∀ x ∈ at_L, x.1 < 110 ∧ ¬ x.1 = 58 := by decide
          have := b x hx
          exact rR _ _ (by omega) (by omega)
        · obtain ⟨fr, ⟨o1, o2, o3, o4⟩, -⟩ := hln.2.2.1 w hw
          exact ⟨(fq (q + 7) w (by omega) (by omega)).1.trans o1, (fq (q + 8) w (by omega) (by omega)).1.trans o2, o3, o4⟩
        · exact (rI 34 2 (by omega) (by omega)).trans ((hfi 34 2 (by omega) (by omega)).trans h34.1)
        · exact (rI 34 7 (by omega) (by omega)).trans ((hfi 34 7 (by omega) (by omega)).trans h34.2.1)
        · exact (rI 34 8 (by omega) (by omega)).trans ((hfi 34 8 (by omega) (by omega)).trans h34.2.2.1)
        · exact (rI 34 9 (by omega) (by omega)).trans ((hfi 34 9 (by omega) (by omega)).trans h34.2.2.2)
        · obtain ⟨f, ⟨f1, f2⟩, f3⟩ := wk d x e hd hx he
          exact ⟨f, (rR 39 _ (by omega) (by omega)).trans f1, rb f (Or.inr f2) _ f3⟩
        · obtain ⟨f, f1, f2⟩ := hbw w (by omega)
          have z := (hy49.2 w f (by omega) f1).1.1
          exact ⟨f, (k40 w).trans f1, rb f (Or.inr z) _ (hrk f (Or.inr z) _ f2)⟩
        · exact (rR 50 5 (by omega) (by omega)).trans ((hf1 50 5 (by omega)).trans s1)
        · exact (rI 50 6 (by omega) (by omega)).trans ((z3 50 6 (by omega)).trans s2.1)
        · exact (rI 50 7 (by omega) (by omega)).trans ((z3 50 7 (by omega)).trans s2.2.1)
        · exact (rI 50 8 (by omega) (by omega)).trans ((z3 50 8 (by omega)).trans s2.2.2)
        · exact (rI 53 k (by omega) (by omega)).trans ((z3 53 k (by omega)).trans (s3 k hk))
        · rw [rI 52 k (by omega) (by omega), z3 52 k (by omega), s4 k hk, ← e3, (fq (q + 6) k (by omega) (by omega)).1, hI49 (q + 6) k (by omega) (nrq (q + 6) (by omega) (by omega)) (by omega)]
        · exact (rI 10 17 (by omega) (by omega)).trans z1
        · exact (rI 10 18 (by omega) (by omega)).trans z2
        · exact (rR 57 m (by omega) (by omega)).trans (hm4 m hm)
        · rw [hg9 k hk]
          show gd (wA L48 R1) (wW L48 R1 pe ev) ev (fun _ => -1) (da * pe) k = wA L68 R69 k
          rw [gd_m1, wA_at hl1.2.1, wA_at ((rR 35 0 (by omega) (by omega)).trans hl1.2.1), hf9 cl k hl1.1.2.2.2.1 (fun z => hcl' z.1)]
      · refine yi_D_if2 false rfl (yi_ge_f h66) ?_
        refine yi_D_run 1 (74, [(3, .inl y3), (2, .inl f38), (1, .inr (.inr (some q))), (0, .inr (.inr (some 10)))], [.inr (.inr (some 10))], (I59, L48, R1, Y50), ((((0 + 1) + n24) + n36) + n51), (((m12 + m25) + m37) + m52)) (fun _ => rfl) ?_
        refine yi_D_gr (v := some 57) rfl rfl rfl (at_r hA1 (j := 8) rfl) (fun _ => ?_)
        refine yi_D_run 2 (79, [(3, .inl y3), (2, .inl f38), (1, .inr (.inr (some q))), (0, .inr (.inr (some 10)))], [.inr (.inr none), .inl y3, .inr (.inr (some 57))], (I59, L48, R1, Y50), ((((0 + 1) + n24) + n36) + n51), (((m12 + m25) + m37) + m52)) (fun _ => rfl) ?_
        refine yi_D_aas2 rfl (fun R73 z73 f73 => ?_)
        refine yi_D_iinc [(3, .inl (y3 + 1)), (2, .inl f38), (1, .inr (.inr (some q))), (0, .inr (.inr (some 10)))] rfl rfl rfl (by rw [show yi_w (y3 + 1) = y3 + 1 from (yi_wn (by omega) (by omega)).trans (by omega)]; rfl) ?_
        refine yi_D_run 1 (64, [(3, .inl (y3 + 1)), (2, .inl f38), (1, .inr (.inr (some q))), (0, .inr (.inr (some 10)))], [], (I59, L48, R73, Y50), ((((0 + 1) + n24) + n36) + n51), (((m12 + m25) + m37) + m52)) (fun _ => rfl) ?_
        exact yi_D_mono (ih64 (by omega) (y3 + 1) R73 (by omega) (fun m hm => by
          by_cases e : (m : Int) = y3
          · obtain rfl : m = y3.toNat := by omega
            exact z73
          · rw [f73 57 m (by omega)]
            exact hm1 m (by omega)) (fun p k hp => (f73 p k (by omega)).trans (hf1 p k hp)) (fun p k x e => by
          by_cases c : p = 57 ∧ k = y3.toNat
          · rw [c.1, c.2, z73] at e
            cases e
          · rw [f73 p k c] at e
            exact hs1 p k x e)) (by omega)
    exact pt64 k (Nat.le_refl _) 0 R55 (by omega) (fun m hm => absurd hm (by omega)) (fun _ _ _ => rfl) (fun p k x e => by
      by_cases c : p = 50 ∧ k = 5
      · rw [c.1, c.2, s1] at e
        cases e
      · rw [← s6 p k c]
        exact e)
  · refine yi_D_if1 false rfl (yi_eq_f h42) ?_
    refine yi_D_run 1 (29, [(2, .inl f38), (1, .inr (.inr (some q))), (0, .inr (.inr (some 10)))], [.inl f38], (I32, L33, R34, Y35), (((0 + 1) + n24) + n36), ((m12 + m25) + m37)) (fun _ => rfl) ?_
    refine yi_D_reti rfl ?_
    exact ⟨_, _, _, _, _, _, _, rfl, hsp40, fun _ => ⟨fI35, fL35, fR35, hNN, fY35⟩, fun h => absurd h h42⟩
