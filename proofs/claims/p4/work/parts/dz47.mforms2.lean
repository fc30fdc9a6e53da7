/-! The check: in which futures a formula holds. -/
theorem pgS_vg {I : Nat → Nat → Int} {pe ev da : Nat} {vg vg' : Prop} [i1 : Decidable vg] [i2 : Decidable vg'] {h : Nat → Int} {fa : Nat → Int} {hcl : Int → Bool} {fr N : Nat} {sk : Nat → List Int} {v : Int} (e : vg ↔ vg') (hp : pgS I pe ev da vg h fa hcl fr N sk v) : pgS I pe ev da vg' h fa hcl fr N sk v := by
  have e := propext e
  subst e
  rw [Subsingleton.elim i2 i1]
  exact hp
theorem pgS_nn {I : Nat → Nat → Int} {pe ev da : Nat} {vg : Prop} [Decidable vg] {h : Nat → Int} {fa : Nat → Int} {hcl : Int → Bool} {fr N : Nat} {sk : Nat → List Int} {v : Int} (hp : pgS I pe ev da vg h fa hcl fr N sk v) (k : Nat) (hk : k < N) (h11 : I 89 (fr + k) = 11) : 0 ≤ I 90 (fr + k) ∧ I 90 (fr + k) ≤ 4095 := by
  obtain ⟨who, e, wh, n, c1, ⟨c2, c3, c4, c5, -⟩, -⟩ := (hp.2.1 k hk).2.2.2 h11
  omega
/-- a formula as it is told, in each future -/
def pgF (I : Nat → Nat → Int) (pe ev da m F : Nat) (ki : Int) (fa : Nat → Int) (fr N : Nat) (wv : Nat → Int) : Prop := ∀ f, f < F → ∃ hcl sk, pgS I pe ev da (ki = 1) (fun k => ((dg ev m f k : Nat) : Int)) fa hcl fr N sk (wv f)
theorem nmg_t {I J : Nat → Nat → Int} {fr : Nat} (e1 : ∀ k, J 89 k = I 89 k) (e2 : ∀ k, J 90 k = I 90 k) : ∀ N, nmg J fr N = nmg I fr N
  | 0 => rfl
  | k + 1 => by
    show (nmg J fr k || decide (J 89 (fr + k) = 11 ∧ (J 90 (fr + k) / 512 < 4 ∨ 7 ≤ J 90 (fr + k) / 8 % 16))) = (nmg I fr k || decide (I 89 (fr + k) = 11 ∧ (I 90 (fr + k) / 512 < 4 ∨ 7 ≤ I 90 (fr + k) / 8 % 16)))
    rw [nmg_t e1 e2 k, e1, e2]
theorem q_laysFutureI {d : Nat} {I L : Nat → Nat → Int} {R : Nat → Nat → Option Nat} {Y : (Nat → Nat) × (Nat → Nat) × Nat} {da pe ev m f : Nat} {x : Int} (hx : x = (f : Int)) (hS : ym_S (R, Y)) (hda : I 88 0 = (da : Int)) (hpe : I 88 1 = (pe : Int)) (hev : I 88 2 = (ev : Int)) (bld : da ≤ 6 ∧ pe ≤ 4 ∧ ev ≤ 4) (hm : m = mny da pe ev) (hf : f ≤ 32768) (hpw : ∀ k, k < m → I 98 k = ((ev ^ (m - 1 - k) : Nat) : Int)) : yi_P zi_Ms d 76 [.inr (.inr (some 82)), .inl x] (I, L, R, Y) (fun r => ∃ I', r = (none, (I', L, R, Y), 0, 0) ∧ (∀ k, k < m → I' 99 k = ((dg ev m f k : Nat) : Int)) ∧ ∀ p i, ¬ p = 99 → I' p i = I p i) := by
  subst hx
  exact q_laysFuture hS hda hpe hev bld hm hf hpw
theorem q_laysFormula {d : Nat} {I L : Nat → Nat → Int} {R : Nat → Nat → Option Nat} {Y : (Nat → Nat) × (Nat → Nat) × Nat} (hS : ym_S (R, Y)) {da pe ev m a fr N F n : Nat} {ki : Int} {fa wv : Nat → Int} (hda : I 88 0 = (da : Int)) (hpe : I 88 1 = (pe : Int)) (hev : I 88 2 = (ev : Int)) (bld : da ≤ 6 ∧ pe ≤ 4 ∧ ev ≤ 4) (hm : m = mny da pe ev) (hF : I 82 24 = (F : Int)) (hF1 : 1 ≤ F ∧ F ≤ 32768) (h25 : I 82 25 = (n : Int)) (hn : F ≤ 64 * n ∧ n ≤ 512) (hpw : ∀ k, k < m → I 98 k = ((ev ^ (m - 1 - k) : Nat) : Int)) (hfa : ∀ j, j < 3 → I 95 j = fa j) (ha : a ≤ 311) (hp : pgF I pe ev da m F ki fa fr N wv) : yi_P zi_Ms d 75 [.inr (.inr (some 82)), .inl (a : Int), .inl (fr : Int), .inl ki] (I, L, R, Y) (fun r => ∃ I' L', r = (none, (I', L', R, Y), 0, 0) ∧ (∀ f, f < 64 * n → rbt L' a f = (!(decide (ki = 4) && nmg I fr N) && (decide (f < F) && (decide (¬ wv f = 0) != decide (ki = 2))))) ∧ rok L' a n ∧ (∀ p i, ¬ (p = 97 ∧ 512 * a ≤ i ∧ i < 512 * a + n) → L' p i = L p i) ∧ I' 82 28 = 0 ∧ ∀ p i, ¬ (p = 82 ∧ i = 28) → ¬ p = 96 → ¬ p = 99 → I' p i = I p i) := by
  refine yi_P_of (M := zi_m75) rfl (fun d k => ?_)
  show yi_D zi_Ms d zi_m75 k (0, [(0, .inr (.inr (some 82))), (1, .inl (a : Int)), (2, .inl (fr : Int)), (3, .inl ki)], [], (I, L, R, Y), 0, 0) _
  refine yi_D_run 2 (2, [(0, .inr (.inr (some 82))), (1, .inl (a : Int)), (2, .inl (fr : Int)), (3, .inl ki)], [.inl (a : Int), .inr (.inr (some 82))], (I, L, R, Y), 0, 0) (fun _ => rfl) ?_
  refine yi_D_callv rfl (q_clears hS rfl ha h25 (by omega)) ?_
  rintro _ ⟨L1, rfl, c12, c23⟩
  have hrb0 : ∀ f, f < 64 * n → rbt L1 a f = false := fun f hf => by unfold rbt; rw [c12 _ (by omega)]; exact yb_0 _
  have hrk0 : rok L1 a n := fun k hk => by rw [c12 k hk]; exact b64_0
  have hrf0 := c23
  show yi_D zi_Ms d zi_m75 k (5, [(0, .inr (.inr (some 82))), (1, .inl (a : Int)), (2, .inl (fr : Int)), (3, .inl ki)], [], (I, L1, R, Y), 0, 0) _
  refine yi_D_run 3 (8, [(0, .inr (.inr (some 82))), (1, .inl (a : Int)), (2, .inl (fr : Int)), (3, .inl ki)], [.inl 1, .inl ki, .inr (.inr (some 82))], (I, L1, R, Y), 0, 0) (fun _ => rfl) ?_
  by_cases h4 : ki = 1
  · refine yi_D_if2 false rfl (yi_ne_f h4) ?_
    refine yi_D_run 2 (16, [(0, .inr (.inr (some 82))), (1, .inl (a : Int)), (2, .inl (fr : Int)), (3, .inl ki)], [.inl 1, .inr (.inr (some 82))], (I, L1, R, Y), 0, 0) (fun _ => rfl) ?_
    skip
    refine yi_D_pi rfl (fun _ => ?_)
    generalize w6 : yi_u I 82 28 1 = I5
    refine yi_D_run 2 (21, [(0, .inr (.inr (some 82))), (1, .inl (a : Int)), (2, .inl (fr : Int)), (3, .inl ki)], [.inl 4, .inl ki], (I5, L1, R, Y), 0, 0) (fun _ => rfl) ?_
    have h7 : ¬ (ki = 4) := by omega
    refine yi_D_if2 true rfl (yi_ne_t h7) ?_
    refine yi_D_run 4 (42, [(5, .inl 0), (4, .inl 0), (0, .inr (.inr (some 82))), (1, .inl (a : Int)), (2, .inl (fr : Int)), (3, .inl ki)], [], (I5, L1, R, Y), 0, 0) (fun _ => rfl) ?_
    have pt42 : ∀ j42, j42 ≤ k → ∀ (y5 : Int) (J1 : Nat → Nat → Int) (G1 : Nat → Nat → Int), (0 ≤ y5 ∧ y5 ≤ (F : Int)) → (∀ f, f < 64 * n → rbt G1 a f = (decide ((f : Int) < y5) && (decide (¬ wv f = 0) != decide (ki = 2)))) → (rok G1 a n) → (∀ p i, ¬ (p = 97 ∧ 512 * a ≤ i ∧ i < 512 * a + n) → G1 p i = L p i) → (∀ p i, ¬ (p = 82 ∧ i = 28) → ¬ p = 96 → ¬ p = 99 → J1 p i = I p i) → (J1 82 28 = 1) → ((0 : Int) = 1 → y5 = 0) → yi_D zi_Ms d zi_m75 j42 (42, [(5, .inl y5), (4, .inl 0), (0, .inr (.inr (some 82))), (1, .inl (a : Int)), (2, .inl (fr : Int)), (3, .inl ki)], [], (J1, G1, R, Y), 0, 0) (fun r => ∃ I' L', r = (none, (I', L', R, Y), 0, 0) ∧ (∀ f, f < 64 * n → rbt L' a f = (!(decide (ki = 4) && nmg I fr N) && (decide (f < F) && (decide (¬ wv f = 0) != decide (ki = 2))))) ∧ rok L' a n ∧ (∀ p i, ¬ (p = 97 ∧ 512 * a ≤ i ∧ i < 512 * a + n) → L' p i = L p i) ∧ I' 82 28 = 0 ∧ ∀ p i, ¬ (p = 82 ∧ i = 28) → ¬ p = 96 → ¬ p = 99 → I' p i = I p i) := by
      intro j42
      induction j42 with
      | zero => intros; exact yi_D_0
      | succ j42 ih42 =>
      intro hk42 y5 J1 G1 hy5 hbb hok hlf hfr h28 hnz
      have hFj : J1 82 24 = (F : Int) := (hfr 82 24 (by omega) (by omega) (by omega)).trans hF
      refine yi_D_run1 1 (45, [(5, .inl y5), (4, .inl 0), (0, .inr (.inr (some 82))), (1, .inl (a : Int)), (2, .inl (fr : Int)), (3, .inl ki)], [.inr (.inr (some 82)), .inl y5], (J1, G1, R, Y), 0, 0) (fun _ => rfl) ?_
      refine yi_D_gi (v := (F : Int)) rfl rfl rfl hFj (fun _ => ?_)
      by_cases h8 : (F : Int) ≤ y5
      · refine yi_D_if2 true rfl (yi_ge_t h8) ?_
        refine yi_D_run 2 (103, [(5, .inl y5), (4, .inl 0), (0, .inr (.inr (some 82))), (1, .inl (a : Int)), (2, .inl (fr : Int)), (3, .inl ki)], [.inl 0, .inr (.inr (some 82))], (J1, G1, R, Y), 0, 0) (fun _ => rfl) ?_
        refine yi_D_pi rfl (fun _ => ?_)
        generalize w10 : yi_u J1 82 28 0 = I9
        refine yi_D_retv rfl ?_
        have enn : (decide (ki = 4) && nmg I fr N) = false := by
          rw [Bool.and_eq_false_iff]; first | exact Or.inl (decide_eq_false (by assumption)) | (right; rw [← Bool.not_eq_true]; assumption)
        refine ⟨_, _, rfl, fun f hf => ?_, hok, hlf, by rw [← w10, yi_u_eq], fun p i h1 h2 h3 => by rw [← w10, yi_u_ne _ _ h1]; exact hfr p i h1 h2 h3⟩
        rw [hbb f hf, enn, show decide ((f : Int) < y5) = decide (f < F) by rw [decide_eq_decide]; omega]
        rfl
      · refine yi_D_if2 false rfl (yi_ge_f h8) ?_
        refine yi_D_run 1 (53, [(5, .inl y5), (4, .inl 0), (0, .inr (.inr (some 82))), (1, .inl (a : Int)), (2, .inl (fr : Int)), (3, .inl ki)], [.inl 0], (J1, G1, R, Y), 0, 0) (fun _ => rfl) ?_
        refine yi_D_if1 false rfl (by decide) ?_
        refine yi_D_run 2 (59, [(5, .inl y5), (4, .inl 0), (0, .inr (.inr (some 82))), (1, .inl (a : Int)), (2, .inl (fr : Int)), (3, .inl ki)], [.inl y5, .inr (.inr (some 82))], (J1, G1, R, Y), 0, 0) (fun _ => rfl) ?_
        refine yi_D_callv rfl (q_laysFutureI (f := y5.toNat) (m := m) (show y5 = ((y5.toNat : Nat) : Int) by omega) hS ((hfr 88 0 (by omega) (by omega) (by omega)).trans hda) ((hfr 88 1 (by omega) (by omega) (by omega)).trans hpe) ((hfr 88 2 (by omega) (by omega) (by omega)).trans hev) bld hm (by omega) (fun k hk => (hfr 98 k (by omega) (by omega) (by omega)).trans (hpw k hk))) ?_
        rintro _ ⟨I11, rfl, d12, fI13⟩
        show yi_D zi_Ms d zi_m75 j42 (62, [(5, .inl y5), (4, .inl 0), (0, .inr (.inr (some 82))), (1, .inl (a : Int)), (2, .inl (fr : Int)), (3, .inl ki)], [], (I11, G1, R, Y), 0, 0) _
        refine yi_D_run 2 (64, [(5, .inl y5), (4, .inl 0), (0, .inr (.inr (some 82))), (1, .inl (a : Int)), (2, .inl (fr : Int)), (3, .inl ki)], [.inl (fr : Int), .inr (.inr (some 82))], (I11, G1, R, Y), 0, 0) (fun _ => rfl) ?_
        obtain ⟨hclf, skf, hpf⟩ := hp y5.toNat (by omega)
        have fJ : ∀ p i, ¬ (p = 82 ∧ i = 28) → ¬ p = 96 → ¬ p = 99 → I11 p i = I p i := fun p i h1 h2 h3 => (fI13 p i h3).trans (hfr p i h1 h2 h3)
        have hpg := pgS_vg (vg' := ¬ I11 82 28 = 0) (by rw [fI13 82 28 (by omega), h28]; exact ⟨fun _ => by omega, fun _ => by omega⟩) (pgS_c (h' := I11 99) (pgS_t (J := I11) hpf (fun k => fJ 89 k (by omega) (by omega) (by omega)) (fun k => fJ 90 k (by omega) (by omega) (by omega))) (fun he k hk => (d12 k (by rw [hm]; unfold mny; rw [if_neg (by omega)]; exact hk)).symm))
        refine yi_D_callv rfl (q_worthAt (fa := fa) hS ((fJ 88 0 (by omega) (by omega) (by omega)).trans hda) ((fJ 88 1 (by omega) (by omega) (by omega)).trans hpe) ((fJ 88 2 (by omega) (by omega) (by omega)).trans hev) bld (fun j hj => (fJ 95 j (by omega) (by omega) (by omega)).trans (hfa j hj)) hpg) ?_
        rintro _ ⟨I14, rfl, fW15⟩
        have fK : ∀ p i, ¬ (p = 82 ∧ i = 28) → ¬ p = 96 → ¬ p = 99 → I14 p i = I p i := fun p i h1 h2 h3 => (fW15 p i h2).trans (fJ p i h1 h2 h3)
        have k28 : I14 82 28 = 1 := (fW15 82 28 (by omega)).trans ((fI13 82 28 (by omega)).trans h28)
        show yi_D zi_Ms d zi_m75 j42 (67, [(5, .inl y5), (4, .inl 0), (0, .inr (.inr (some 82))), (1, .inl (a : Int)), (2, .inl (fr : Int)), (3, .inl ki)], [.inl (wv y5.toNat)], (I14, G1, R, Y), 0, 0) _
        by_cases h16 : (wv y5.toNat) = 0
        · refine yi_D_if1 true rfl (yi_eq_t h16) ?_
          refine yi_D_run 3 (77, [(5, .inl y5), (4, .inl 0), (0, .inr (.inr (some 82))), (1, .inl (a : Int)), (2, .inl (fr : Int)), (3, .inl ki)], [.inl 2, .inl ki, .inl 0], (I14, G1, R, Y), 0, 0) (fun _ => rfl) ?_
          by_cases h17 : ki = 2
          · refine yi_D_if2 false rfl (yi_ne_f h17) ?_
            refine yi_D_run 2 (85, [(5, .inl y5), (4, .inl 0), (0, .inr (.inr (some 82))), (1, .inl (a : Int)), (2, .inl (fr : Int)), (3, .inl ki)], [.inl 1, .inl 0], (I14, G1, R, Y), 0, 0) (fun _ => rfl) ?_
            have hcmp : (decide (¬ wv y5.toNat = 0) != decide (ki = 2)) = true := by
              rw [show decide (¬ wv y5.toNat = 0) = false from decide_eq_false (fun h => h (by assumption)), show decide (ki = 2) = true from decide_eq_true (by assumption)]
              rfl
            refine yi_D_if2 false rfl (by decide) ?_
            refine yi_D_run 3 (92, [(5, .inl y5), (4, .inl 0), (0, .inr (.inr (some 82))), (1, .inl (a : Int)), (2, .inl (fr : Int)), (3, .inl ki)], [.inl y5, .inl (a : Int), .inr (.inr (some 82))], (I14, G1, R, Y), 0, 0) (fun _ => rfl) ?_
            refine yi_D_callv rfl (q_sets (a := a) (f := y5.toNat) hS rfl (by omega) ha (by omega)) ?_
            rintro _ ⟨L18, rfl, s119, s220, s321⟩
            show yi_D zi_Ms d zi_m75 j42 (95, [(5, .inl y5), (4, .inl 0), (0, .inr (.inr (some 82))), (1, .inl (a : Int)), (2, .inl (fr : Int)), (3, .inl ki)], [], (I14, L18, R, Y), 0, 0) _
            refine yi_D_iinc [(5, .inl (y5 + 1)), (4, .inl 0), (0, .inr (.inr (some 82))), (1, .inl (a : Int)), (2, .inl (fr : Int)), (3, .inl ki)] rfl rfl rfl (by rw [show yi_w (y5 + 1) = y5 + 1 from (yi_wn (by omega) (by omega)).trans (by omega)]; rfl) ?_
            refine yi_D_run 1 (42, [(5, .inl (y5 + 1)), (4, .inl 0), (0, .inr (.inr (some 82))), (1, .inl (a : Int)), (2, .inl (fr : Int)), (3, .inl ki)], [], (I14, L18, R, Y), 0, 0) (fun _ => rfl) ?_
            exact yi_D_mono (ih42 (by omega) (y5 + 1) I14 L18 (by omega) (fun f hf => by rw [s119 f, hbb f hf]; by_cases e : f = y5.toNat; rw [e, decide_eq_false (show ¬ ((y5.toNat : Int) < y5) by omega), decide_eq_true (show ((y5.toNat : Int) < y5 + 1) by omega), decide_eq_true rfl, Bool.false_and, Bool.false_or, Bool.true_and, hcmp]; rw [decide_eq_false e, Bool.or_false, show decide ((f : Int) < y5 + 1) = decide ((f : Int) < y5) by rw [decide_eq_decide]; omega]) (s220 n hok) (fun p i h => by rw [s321 p i (by omega)]; exact hlf p i h) fK k28 (fun h => absurd h (by omega))) (by omega)
          · refine yi_D_if2 true rfl (yi_ne_t h17) ?_
            refine yi_D_run 1 (85, [(5, .inl y5), (4, .inl 0), (0, .inr (.inr (some 82))), (1, .inl (a : Int)), (2, .inl (fr : Int)), (3, .inl ki)], [.inl 0, .inl 0], (I14, G1, R, Y), 0, 0) (fun _ => rfl) ?_
            have hcmp : (decide (¬ wv y5.toNat = 0) != decide (ki = 2)) = false := by
              rw [show decide (¬ wv y5.toNat = 0) = false from decide_eq_false (fun h => h (by assumption)), show decide (ki = 2) = false from decide_eq_false (by assumption)]
              rfl
            refine yi_D_if2 true rfl (by decide) ?_
            refine yi_D_iinc [(5, .inl (y5 + 1)), (4, .inl 0), (0, .inr (.inr (some 82))), (1, .inl (a : Int)), (2, .inl (fr : Int)), (3, .inl ki)] rfl rfl rfl (by rw [show yi_w (y5 + 1) = y5 + 1 from (yi_wn (by omega) (by omega)).trans (by omega)]; rfl) ?_
            refine yi_D_run 1 (42, [(5, .inl (y5 + 1)), (4, .inl 0), (0, .inr (.inr (some 82))), (1, .inl (a : Int)), (2, .inl (fr : Int)), (3, .inl ki)], [], (I14, G1, R, Y), 0, 0) (fun _ => rfl) ?_
            exact yi_D_mono (ih42 (by omega) (y5 + 1) I14 G1 (by omega) (fun f hf => by rw [hbb f hf]; by_cases e : f = y5.toNat; rw [e, hcmp, Bool.and_false, Bool.and_false]; rw [show decide ((f : Int) < y5 + 1) = decide ((f : Int) < y5) by rw [decide_eq_decide]; omega]) hok hlf fK k28 (fun h => absurd h (by omega))) (by omega)
        · refine yi_D_if1 false rfl (yi_eq_f h16) ?_
          refine yi_D_run 4 (77, [(5, .inl y5), (4, .inl 0), (0, .inr (.inr (some 82))), (1, .inl (a : Int)), (2, .inl (fr : Int)), (3, .inl ki)], [.inl 2, .inl ki, .inl 1], (I14, G1, R, Y), 0, 0) (fun _ => rfl) ?_
          by_cases h22 : ki = 2
          · refine yi_D_if2 false rfl (yi_ne_f h22) ?_
            refine yi_D_run 2 (85, [(5, .inl y5), (4, .inl 0), (0, .inr (.inr (some 82))), (1, .inl (a : Int)), (2, .inl (fr : Int)), (3, .inl ki)], [.inl 1, .inl 1], (I14, G1, R, Y), 0, 0) (fun _ => rfl) ?_
            have hcmp : (decide (¬ wv y5.toNat = 0) != decide (ki = 2)) = false := by
              rw [show decide (¬ wv y5.toNat = 0) = true from decide_eq_true (by assumption), show decide (ki = 2) = true from decide_eq_true (by assumption)]
              rfl
            refine yi_D_if2 true rfl (by decide) ?_
            refine yi_D_iinc [(5, .inl (y5 + 1)), (4, .inl 0), (0, .inr (.inr (some 82))), (1, .inl (a : Int)), (2, .inl (fr : Int)), (3, .inl ki)] rfl rfl rfl (by rw [show yi_w (y5 + 1) = y5 + 1 from (yi_wn (by omega) (by omega)).trans (by omega)]; rfl) ?_
            refine yi_D_run 1 (42, [(5, .inl (y5 + 1)), (4, .inl 0), (0, .inr (.inr (some 82))), (1, .inl (a : Int)), (2, .inl (fr : Int)), (3, .inl ki)], [], (I14, G1, R, Y), 0, 0) (fun _ => rfl) ?_
            exact yi_D_mono (ih42 (by omega) (y5 + 1) I14 G1 (by omega) (fun f hf => by rw [hbb f hf]; by_cases e : f = y5.toNat; rw [e, hcmp, Bool.and_false, Bool.and_false]; rw [show decide ((f : Int) < y5 + 1) = decide ((f : Int) < y5) by rw [decide_eq_decide]; omega]) hok hlf fK k28 (fun h => absurd h (by omega))) (by omega)
          · refine yi_D_if2 true rfl (yi_ne_t h22) ?_
            refine yi_D_run 1 (85, [(5, .inl y5), (4, .inl 0), (0, .inr (.inr (some 82))), (1, .inl (a : Int)), (2, .inl (fr : Int)), (3, .inl ki)], [.inl 0, .inl 1], (I14, G1, R, Y), 0, 0) (fun _ => rfl) ?_
            have hcmp : (decide (¬ wv y5.toNat = 0) != decide (ki = 2)) = true := by
              rw [show decide (¬ wv y5.toNat = 0) = true from decide_eq_true (by assumption), show decide (ki = 2) = false from decide_eq_false (by assumption)]
              rfl
            refine yi_D_if2 false rfl (by decide) ?_
            refine yi_D_run 3 (92, [(5, .inl y5), (4, .inl 0), (0, .inr (.inr (some 82))), (1, .inl (a : Int)), (2, .inl (fr : Int)), (3, .inl ki)], [.inl y5, .inl (a : Int), .inr (.inr (some 82))], (I14, G1, R, Y), 0, 0) (fun _ => rfl) ?_
            refine yi_D_callv rfl (q_sets (a := a) (f := y5.toNat) hS rfl (by omega) ha (by omega)) ?_
            rintro _ ⟨L23, rfl, s124, s225, s326⟩
            show yi_D zi_Ms d zi_m75 j42 (95, [(5, .inl y5), (4, .inl 0), (0, .inr (.inr (some 82))), (1, .inl (a : Int)), (2, .inl (fr : Int)), (3, .inl ki)], [], (I14, L23, R, Y), 0, 0) _
            refine yi_D_iinc [(5, .inl (y5 + 1)), (4, .inl 0), (0, .inr (.inr (some 82))), (1, .inl (a : Int)), (2, .inl (fr : Int)), (3, .inl ki)] rfl rfl rfl (by rw [show yi_w (y5 + 1) = y5 + 1 from (yi_wn (by omega) (by omega)).trans (by omega)]; rfl) ?_
            refine yi_D_run 1 (42, [(5, .inl (y5 + 1)), (4, .inl 0), (0, .inr (.inr (some 82))), (1, .inl (a : Int)), (2, .inl (fr : Int)), (3, .inl ki)], [], (I14, L23, R, Y), 0, 0) (fun _ => rfl) ?_
            exact yi_D_mono (ih42 (by omega) (y5 + 1) I14 L23 (by omega) (fun f hf => by rw [s124 f, hbb f hf]; by_cases e : f = y5.toNat; rw [e, decide_eq_false (show ¬ ((y5.toNat : Int) < y5) by omega), decide_eq_true (show ((y5.toNat : Int) < y5 + 1) by omega), decide_eq_true rfl, Bool.false_and, Bool.false_or, Bool.true_and, hcmp]; rw [decide_eq_false e, Bool.or_false, show decide ((f : Int) < y5 + 1) = decide ((f : Int) < y5) by rw [decide_eq_decide]; omega]) (s225 n hok) (fun p i h => by rw [s326 p i (by omega)]; exact hlf p i h) fK k28 (fun h => absurd h (by omega))) (by omega)
    exact pt42 k (Nat.le_refl _) 0 I5 L1 (by omega) (fun f hf => by rw [hrb0 f hf, decide_eq_false (show ¬ ((f : Int) < 0) by omega), Bool.false_and]) hrk0 (fun p i h => hrf0 p i h) (fun p i h _ _ => by rw [← w6, yi_u_ne _ _ h]) (by rw [← w6, yi_u_eq]) (fun _ => rfl)
  · refine yi_D_if2 true rfl (yi_ne_t h4) ?_
    refine yi_D_run 1 (16, [(0, .inr (.inr (some 82))), (1, .inl (a : Int)), (2, .inl (fr : Int)), (3, .inl ki)], [.inl 0, .inr (.inr (some 82))], (I, L1, R, Y), 0, 0) (fun _ => rfl) ?_
    skip
    refine yi_D_pi rfl (fun _ => ?_)
    generalize w28 : yi_u I 82 28 0 = I27
    refine yi_D_run 2 (21, [(0, .inr (.inr (some 82))), (1, .inl (a : Int)), (2, .inl (fr : Int)), (3, .inl ki)], [.inl 4, .inl ki], (I27, L1, R, Y), 0, 0) (fun _ => rfl) ?_
    by_cases h29 : ki = 4
    · refine yi_D_if2 false rfl (yi_ne_f h29) ?_
      refine yi_D_run 2 (26, [(0, .inr (.inr (some 82))), (1, .inl (a : Int)), (2, .inl (fr : Int)), (3, .inl ki)], [.inl (fr : Int), .inr (.inr (some 82))], (I27, L1, R, Y), 0, 0) (fun _ => rfl) ?_
      obtain ⟨hcl0, sk0, hp0⟩ := hp 0 (by omega)
      have f28 : ∀ p i, ¬ (p = 82 ∧ i = 28) → I27 p i = I p i := fun p i h => by rw [← w28, yi_u_ne _ _ h]
      have enm : nmg I27 fr N = nmg I fr N := nmg_t (fun k => f28 89 k (by omega)) (fun k => f28 90 k (by omega)) N
      refine yi_D_callv rfl (q_isNaming (N := N) hS hp0.1.1 (fun k hk => by rw [f28 89 _ (by omega)]; exact (hp0.2.1 k hk).1.1) (fun k hk h => by rw [f28 90 _ (by omega)]; exact pgS_nn hp0 k hk (by rw [← f28 89 _ (by omega)]; exact h)) (by rw [f28 89 _ (by omega)]; exact hp0.2.2.1)) ?_
      rintro _ (⟨hb30, rfl⟩ | ⟨hb31, rfl⟩)
      · rw [enm] at hb30
        show yi_D zi_Ms d zi_m75 k (29, [(0, .inr (.inr (some 82))), (1, .inl (a : Int)), (2, .inl (fr : Int)), (3, .inl ki)], [.inl 1], (I27, L1, R, Y), 0, 0) _
        refine yi_D_if1 false rfl (by decide) ?_
        refine yi_D_run 5 (42, [(5, .inl 0), (4, .inl 1), (0, .inr (.inr (some 82))), (1, .inl (a : Int)), (2, .inl (fr : Int)), (3, .inl ki)], [], (I27, L1, R, Y), 0, 0) (fun _ => rfl) ?_
        have pt42 : ∀ j42, j42 ≤ k → ∀ (y5 : Int) (J1 : Nat → Nat → Int) (G1 : Nat → Nat → Int), (0 ≤ y5 ∧ y5 ≤ (F : Int)) → (∀ f, f < 64 * n → rbt G1 a f = (decide ((f : Int) < y5) && (decide (¬ wv f = 0) != decide (ki = 2)))) → (rok G1 a n) → (∀ p i, ¬ (p = 97 ∧ 512 * a ≤ i ∧ i < 512 * a + n) → G1 p i = L p i) → (∀ p i, ¬ (p = 82 ∧ i = 28) → ¬ p = 96 → ¬ p = 99 → J1 p i = I p i) → (J1 82 28 = 0) → ((1 : Int) = 1 → y5 = 0) → yi_D zi_Ms d zi_m75 j42 (42, [(5, .inl y5), (4, .inl 1), (0, .inr (.inr (some 82))), (1, .inl (a : Int)), (2, .inl (fr : Int)), (3, .inl ki)], [], (J1, G1, R, Y), 0, 0) (fun r => ∃ I' L', r = (none, (I', L', R, Y), 0, 0) ∧ (∀ f, f < 64 * n → rbt L' a f = (!(decide (ki = 4) && nmg I fr N) && (decide (f < F) && (decide (¬ wv f = 0) != decide (ki = 2))))) ∧ rok L' a n ∧ (∀ p i, ¬ (p = 97 ∧ 512 * a ≤ i ∧ i < 512 * a + n) → L' p i = L p i) ∧ I' 82 28 = 0 ∧ ∀ p i, ¬ (p = 82 ∧ i = 28) → ¬ p = 96 → ¬ p = 99 → I' p i = I p i) := by
          intro j42
          induction j42 with
          | zero => intros; exact yi_D_0
          | succ j42 ih42 =>
          intro hk42 y5 J1 G1 hy5 hbb hok hlf hfr h28 hnz
          have hFj : J1 82 24 = (F : Int) := (hfr 82 24 (by omega) (by omega) (by omega)).trans hF
          refine yi_D_run1 1 (45, [(5, .inl y5), (4, .inl 1), (0, .inr (.inr (some 82))), (1, .inl (a : Int)), (2, .inl (fr : Int)), (3, .inl ki)], [.inr (.inr (some 82)), .inl y5], (J1, G1, R, Y), 0, 0) (fun _ => rfl) ?_
          refine yi_D_gi (v := (F : Int)) rfl rfl rfl hFj (fun _ => ?_)
          by_cases h32 : (F : Int) ≤ y5
          · refine yi_D_if2 true rfl (yi_ge_t h32) ?_
            refine yi_D_run 2 (103, [(5, .inl y5), (4, .inl 1), (0, .inr (.inr (some 82))), (1, .inl (a : Int)), (2, .inl (fr : Int)), (3, .inl ki)], [.inl 0, .inr (.inr (some 82))], (J1, G1, R, Y), 0, 0) (fun _ => rfl) ?_
            refine yi_D_pi rfl (fun _ => ?_)
            generalize w34 : yi_u J1 82 28 0 = I33
            refine yi_D_retv rfl ?_
            have enn : (decide (ki = 4) && nmg I fr N) = true := by
              rw [decide_eq_true (by assumption), Bool.true_and]; assumption
            have hy50 := hnz (by omega)
            refine ⟨_, _, rfl, fun f hf => ?_, hok, hlf, by rw [← w34, yi_u_eq], fun p i h1 h2 h3 => by rw [← w34, yi_u_ne _ _ h1]; exact hfr p i h1 h2 h3⟩
            rw [hbb f hf, enn, decide_eq_false (show ¬ ((f : Int) < y5) by omega)]
            rfl
          · refine yi_D_if2 false rfl (yi_ge_f h32) ?_
            refine yi_D_run 1 (53, [(5, .inl y5), (4, .inl 1), (0, .inr (.inr (some 82))), (1, .inl (a : Int)), (2, .inl (fr : Int)), (3, .inl ki)], [.inl 1], (J1, G1, R, Y), 0, 0) (fun _ => rfl) ?_
            refine yi_D_if1 true rfl (by decide) ?_
            refine yi_D_run 2 (103, [(5, .inl y5), (4, .inl 1), (0, .inr (.inr (some 82))), (1, .inl (a : Int)), (2, .inl (fr : Int)), (3, .inl ki)], [.inl 0, .inr (.inr (some 82))], (J1, G1, R, Y), 0, 0) (fun _ => rfl) ?_
            refine yi_D_pi rfl (fun _ => ?_)
            generalize w36 : yi_u J1 82 28 0 = I35
            refine yi_D_retv rfl ?_
            have enn : (decide (ki = 4) && nmg I fr N) = true := by
              rw [decide_eq_true (by assumption), Bool.true_and]; assumption
            have hy50 := hnz (by omega)
            refine ⟨_, _, rfl, fun f hf => ?_, hok, hlf, by rw [← w36, yi_u_eq], fun p i h1 h2 h3 => by rw [← w36, yi_u_ne _ _ h1]; exact hfr p i h1 h2 h3⟩
            rw [hbb f hf, enn, decide_eq_false (show ¬ ((f : Int) < y5) by omega)]
            rfl
        exact pt42 k (Nat.le_refl _) 0 I27 L1 (by omega) (fun f hf => by rw [hrb0 f hf, decide_eq_false (show ¬ ((f : Int) < 0) by omega), Bool.false_and]) hrk0 (fun p i h => hrf0 p i h) (fun p i h _ _ => by rw [← w28, yi_u_ne _ _ h]) (by rw [← w28, yi_u_eq]) (fun _ => rfl)
      · rw [enm] at hb31
        show yi_D zi_Ms d zi_m75 k (29, [(0, .inr (.inr (some 82))), (1, .inl (a : Int)), (2, .inl (fr : Int)), (3, .inl ki)], [.inl 0], (I27, L1, R, Y), 0, 0) _
        refine yi_D_if1 true rfl (by decide) ?_
        refine yi_D_run 4 (42, [(5, .inl 0), (4, .inl 0), (0, .inr (.inr (some 82))), (1, .inl (a : Int)), (2, .inl (fr : Int)), (3, .inl ki)], [], (I27, L1, R, Y), 0, 0) (fun _ => rfl) ?_
        have pt42 : ∀ j42, j42 ≤ k → ∀ (y5 : Int) (J1 : Nat → Nat → Int) (G1 : Nat → Nat → Int), (0 ≤ y5 ∧ y5 ≤ (F : Int)) → (∀ f, f < 64 * n → rbt G1 a f = (decide ((f : Int) < y5) && (decide (¬ wv f = 0) != decide (ki = 2)))) → (rok G1 a n) → (∀ p i, ¬ (p = 97 ∧ 512 * a ≤ i ∧ i < 512 * a + n) → G1 p i = L p i) → (∀ p i, ¬ (p = 82 ∧ i = 28) → ¬ p = 96 → ¬ p = 99 → J1 p i = I p i) → (J1 82 28 = 0) → ((0 : Int) = 1 → y5 = 0) → yi_D zi_Ms d zi_m75 j42 (42, [(5, .inl y5), (4, .inl 0), (0, .inr (.inr (some 82))), (1, .inl (a : Int)), (2, .inl (fr : Int)), (3, .inl ki)], [], (J1, G1, R, Y), 0, 0) (fun r => ∃ I' L', r = (none, (I', L', R, Y), 0, 0) ∧ (∀ f, f < 64 * n → rbt L' a f = (!(decide (ki = 4) && nmg I fr N) && (decide (f < F) && (decide (¬ wv f = 0) != decide (ki = 2))))) ∧ rok L' a n ∧ (∀ p i, ¬ (p = 97 ∧ 512 * a ≤ i ∧ i < 512 * a + n) → L' p i = L p i) ∧ I' 82 28 = 0 ∧ ∀ p i, ¬ (p = 82 ∧ i = 28) → ¬ p = 96 → ¬ p = 99 → I' p i = I p i) := by
          intro j42
          induction j42 with
          | zero => intros; exact yi_D_0
          | succ j42 ih42 =>
          intro hk42 y5 J1 G1 hy5 hbb hok hlf hfr h28 hnz
          have hFj : J1 82 24 = (F : Int) := (hfr 82 24 (by omega) (by omega) (by omega)).trans hF
          refine yi_D_run1 1 (45, [(5, .inl y5), (4, .inl 0), (0, .inr (.inr (some 82))), (1, .inl (a : Int)), (2, .inl (fr : Int)), (3, .inl ki)], [.inr (.inr (some 82)), .inl y5], (J1, G1, R, Y), 0, 0) (fun _ => rfl) ?_
          refine yi_D_gi (v := (F : Int)) rfl rfl rfl hFj (fun _ => ?_)
          by_cases h37 : (F : Int) ≤ y5
          · refine yi_D_if2 true rfl (yi_ge_t h37) ?_
            refine yi_D_run 2 (103, [(5, .inl y5), (4, .inl 0), (0, .inr (.inr (some 82))), (1, .inl (a : Int)), (2, .inl (fr : Int)), (3, .inl ki)], [.inl 0, .inr (.inr (some 82))], (J1, G1, R, Y), 0, 0) (fun _ => rfl) ?_
            refine yi_D_pi rfl (fun _ => ?_)
            generalize w39 : yi_u J1 82 28 0 = I38
            refine yi_D_retv rfl ?_
            have enn : (decide (ki = 4) && nmg I fr N) = false := by
              rw [Bool.and_eq_false_iff]; first | exact Or.inl (decide_eq_false (by assumption)) | (right; rw [← Bool.not_eq_true]; assumption)
            refine ⟨_, _, rfl, fun f hf => ?_, hok, hlf, by rw [← w39, yi_u_eq], fun p i h1 h2 h3 => by rw [← w39, yi_u_ne _ _ h1]; exact hfr p i h1 h2 h3⟩
            rw [hbb f hf, enn, show decide ((f : Int) < y5) = decide (f < F) by rw [decide_eq_decide]; omega]
            rfl
          · refine yi_D_if2 false rfl (yi_ge_f h37) ?_
            refine yi_D_run 1 (53, [(5, .inl y5), (4, .inl 0), (0, .inr (.inr (some 82))), (1, .inl (a : Int)), (2, .inl (fr : Int)), (3, .inl ki)], [.inl 0], (J1, G1, R, Y), 0, 0) (fun _ => rfl) ?_
            refine yi_D_if1 false rfl (by decide) ?_
            refine yi_D_run 2 (59, [(5, .inl y5), (4, .inl 0), (0, .inr (.inr (some 82))), (1, .inl (a : Int)), (2, .inl (fr : Int)), (3, .inl ki)], [.inl y5, .inr (.inr (some 82))], (J1, G1, R, Y), 0, 0) (fun _ => rfl) ?_
            refine yi_D_callv rfl (q_laysFutureI (f := y5.toNat) (m := m) (show y5 = ((y5.toNat : Nat) : Int) by omega) hS ((hfr 88 0 (by omega) (by omega) (by omega)).trans hda) ((hfr 88 1 (by omega) (by omega) (by omega)).trans hpe) ((hfr 88 2 (by omega) (by omega) (by omega)).trans hev) bld hm (by omega) (fun k hk => (hfr 98 k (by omega) (by omega) (by omega)).trans (hpw k hk))) ?_
            rintro _ ⟨I40, rfl, d41, fI42⟩
            show yi_D zi_Ms d zi_m75 j42 (62, [(5, .inl y5), (4, .inl 0), (0, .inr (.inr (some 82))), (1, .inl (a : Int)), (2, .inl (fr : Int)), (3, .inl ki)], [], (I40, G1, R, Y), 0, 0) _
            refine yi_D_run 2 (64, [(5, .inl y5), (4, .inl 0), (0, .inr (.inr (some 82))), (1, .inl (a : Int)), (2, .inl (fr : Int)), (3, .inl ki)], [.inl (fr : Int), .inr (.inr (some 82))], (I40, G1, R, Y), 0, 0) (fun _ => rfl) ?_
            obtain ⟨hclf, skf, hpf⟩ := hp y5.toNat (by omega)
            have fJ : ∀ p i, ¬ (p = 82 ∧ i = 28) → ¬ p = 96 → ¬ p = 99 → I40 p i = I p i := fun p i h1 h2 h3 => (fI42 p i h3).trans (hfr p i h1 h2 h3)
            have hpg := pgS_vg (vg' := ¬ I40 82 28 = 0) (by rw [fI42 82 28 (by omega), h28]; exact ⟨fun h => absurd h (by omega), fun h => absurd rfl h⟩) (pgS_c (h' := I40 99) (pgS_t (J := I40) hpf (fun k => fJ 89 k (by omega) (by omega) (by omega)) (fun k => fJ 90 k (by omega) (by omega) (by omega))) (fun he k hk => (d41 k (by rw [hm]; unfold mny; rw [if_neg (by omega)]; exact hk)).symm))
            refine yi_D_callv rfl (q_worthAt (fa := fa) hS ((fJ 88 0 (by omega) (by omega) (by omega)).trans hda) ((fJ 88 1 (by omega) (by omega) (by omega)).trans hpe) ((fJ 88 2 (by omega) (by omega) (by omega)).trans hev) bld (fun j hj => (fJ 95 j (by omega) (by omega) (by omega)).trans (hfa j hj)) hpg) ?_
            rintro _ ⟨I43, rfl, fW44⟩
            have fK : ∀ p i, ¬ (p = 82 ∧ i = 28) → ¬ p = 96 → ¬ p = 99 → I43 p i = I p i := fun p i h1 h2 h3 => (fW44 p i h2).trans (fJ p i h1 h2 h3)
            have k28 : I43 82 28 = 0 := (fW44 82 28 (by omega)).trans ((fI42 82 28 (by omega)).trans h28)
            show yi_D zi_Ms d zi_m75 j42 (67, [(5, .inl y5), (4, .inl 0), (0, .inr (.inr (some 82))), (1, .inl (a : Int)), (2, .inl (fr : Int)), (3, .inl ki)], [.inl (wv y5.toNat)], (I43, G1, R, Y), 0, 0) _
            by_cases h45 : (wv y5.toNat) = 0
            · refine yi_D_if1 true rfl (yi_eq_t h45) ?_
              refine yi_D_run 3 (77, [(5, .inl y5), (4, .inl 0), (0, .inr (.inr (some 82))), (1, .inl (a : Int)), (2, .inl (fr : Int)), (3, .inl ki)], [.inl 2, .inl ki, .inl 0], (I43, G1, R, Y), 0, 0) (fun _ => rfl) ?_
              by_cases h46 : ki = 2
              · refine yi_D_if2 false rfl (yi_ne_f h46) ?_
                refine yi_D_run 2 (85, [(5, .inl y5), (4, .inl 0), (0, .inr (.inr (some 82))), (1, .inl (a : Int)), (2, .inl (fr : Int)), (3, .inl ki)], [.inl 1, .inl 0], (I43, G1, R, Y), 0, 0) (fun _ => rfl) ?_
                have hcmp : (decide (¬ wv y5.toNat = 0) != decide (ki = 2)) = true := by
                  rw [show decide (¬ wv y5.toNat = 0) = false from decide_eq_false (fun h => h (by assumption)), show decide (ki = 2) = true from decide_eq_true (by assumption)]
                  rfl
                refine yi_D_if2 false rfl (by decide) ?_
                refine yi_D_run 3 (92, [(5, .inl y5), (4, .inl 0), (0, .inr (.inr (some 82))), (1, .inl (a : Int)), (2, .inl (fr : Int)), (3, .inl ki)], [.inl y5, .inl (a : Int), .inr (.inr (some 82))], (I43, G1, R, Y), 0, 0) (fun _ => rfl) ?_
                refine yi_D_callv rfl (q_sets (a := a) (f := y5.toNat) hS rfl (by omega) ha (by omega)) ?_
                rintro _ ⟨L47, rfl, s148, s249, s350⟩
                show yi_D zi_Ms d zi_m75 j42 (95, [(5, .inl y5), (4, .inl 0), (0, .inr (.inr (some 82))), (1, .inl (a : Int)), (2, .inl (fr : Int)), (3, .inl ki)], [], (I43, L47, R, Y), 0, 0) _
                refine yi_D_iinc [(5, .inl (y5 + 1)), (4, .inl 0), (0, .inr (.inr (some 82))), (1, .inl (a : Int)), (2, .inl (fr : Int)), (3, .inl ki)] rfl rfl rfl (by rw [show yi_w (y5 + 1) = y5 + 1 from (yi_wn (by omega) (by omega)).trans (by omega)]; rfl) ?_
                refine yi_D_run 1 (42, [(5, .inl (y5 + 1)), (4, .inl 0), (0, .inr (.inr (some 82))), (1, .inl (a : Int)), (2, .inl (fr : Int)), (3, .inl ki)], [], (I43, L47, R, Y), 0, 0) (fun _ => rfl) ?_
                exact yi_D_mono (ih42 (by omega) (y5 + 1) I43 L47 (by omega) (fun f hf => by rw [s148 f, hbb f hf]; by_cases e : f = y5.toNat; rw [e, decide_eq_false (show ¬ ((y5.toNat : Int) < y5) by omega), decide_eq_true (show ((y5.toNat : Int) < y5 + 1) by omega), decide_eq_true rfl, Bool.false_and, Bool.false_or, Bool.true_and, hcmp]; rw [decide_eq_false e, Bool.or_false, show decide ((f : Int) < y5 + 1) = decide ((f : Int) < y5) by rw [decide_eq_decide]; omega]) (s249 n hok) (fun p i h => by rw [s350 p i (by omega)]; exact hlf p i h) fK k28 (fun h => absurd h (by omega))) (by omega)
              · refine yi_D_if2 true rfl (yi_ne_t h46) ?_
                refine yi_D_run 1 (85, [(5, .inl y5), (4, .inl 0), (0, .inr (.inr (some 82))), (1, .inl (a : Int)), (2, .inl (fr : Int)), (3, .inl ki)], [.inl 0, .inl 0], (I43, G1, R, Y), 0, 0) (fun _ => rfl) ?_
                have hcmp : (decide (¬ wv y5.toNat = 0) != decide (ki = 2)) = false := by
                  rw [show decide (¬ wv y5.toNat = 0) = false from decide_eq_false (fun h => h (by assumption)), show decide (ki = 2) = false from decide_eq_false (by assumption)]
                  rfl
                refine yi_D_if2 true rfl (by decide) ?_
                refine yi_D_iinc [(5, .inl (y5 + 1)), (4, .inl 0), (0, .inr (.inr (some 82))), (1, .inl (a : Int)), (2, .inl (fr : Int)), (3, .inl ki)] rfl rfl rfl (by rw [show yi_w (y5 + 1) = y5 + 1 from (yi_wn (by omega) (by omega)).trans (by omega)]; rfl) ?_
                refine yi_D_run 1 (42, [(5, .inl (y5 + 1)), (4, .inl 0), (0, .inr (.inr (some 82))), (1, .inl (a : Int)), (2, .inl (fr : Int)), (3, .inl ki)], [], (I43, G1, R, Y), 0, 0) (fun _ => rfl) ?_
                exact yi_D_mono (ih42 (by omega) (y5 + 1) I43 G1 (by omega) (fun f hf => by rw [hbb f hf]; by_cases e : f = y5.toNat; rw [e, hcmp, Bool.and_false, Bool.and_false]; rw [show decide ((f : Int) < y5 + 1) = decide ((f : Int) < y5) by rw [decide_eq_decide]; omega]) hok hlf fK k28 (fun h => absurd h (by omega))) (by omega)
            · refine yi_D_if1 false rfl (yi_eq_f h45) ?_
              refine yi_D_run 4 (77, [(5, .inl y5), (4, .inl 0), (0, .inr (.inr (some 82))), (1, .inl (a : Int)), (2, .inl (fr : Int)), (3, .inl ki)], [.inl 2, .inl ki, .inl 1], (I43, G1, R, Y), 0, 0) (fun _ => rfl) ?_
              by_cases h51 : ki = 2
              · refine yi_D_if2 false rfl (yi_ne_f h51) ?_
                refine yi_D_run 2 (85, [(5, .inl y5), (4, .inl 0), (0, .inr (.inr (some 82))), (1, .inl (a : Int)), (2, .inl (fr : Int)), (3, .inl ki)], [.inl 1, .inl 1], (I43, G1, R, Y), 0, 0) (fun _ => rfl) ?_
                have hcmp : (decide (¬ wv y5.toNat = 0) != decide (ki = 2)) = false := by
                  rw [show decide (¬ wv y5.toNat = 0) = true from decide_eq_true (by assumption), show decide (ki = 2) = true from decide_eq_true (by assumption)]
                  rfl
                refine yi_D_if2 true rfl (by decide) ?_
                refine yi_D_iinc [(5, .inl (y5 + 1)), (4, .inl 0), (0, .inr (.inr (some 82))), (1, .inl (a : Int)), (2, .inl (fr : Int)), (3, .inl ki)] rfl rfl rfl (by rw [show yi_w (y5 + 1) = y5 + 1 from (yi_wn (by omega) (by omega)).trans (by omega)]; rfl) ?_
                refine yi_D_run 1 (42, [(5, .inl (y5 + 1)), (4, .inl 0), (0, .inr (.inr (some 82))), (1, .inl (a : Int)), (2, .inl (fr : Int)), (3, .inl ki)], [], (I43, G1, R, Y), 0, 0) (fun _ => rfl) ?_
                exact yi_D_mono (ih42 (by omega) (y5 + 1) I43 G1 (by omega) (fun f hf => by rw [hbb f hf]; by_cases e : f = y5.toNat; rw [e, hcmp, Bool.and_false, Bool.and_false]; rw [show decide ((f : Int) < y5 + 1) = decide ((f : Int) < y5) by rw [decide_eq_decide]; omega]) hok hlf fK k28 (fun h => absurd h (by omega))) (by omega)
              · refine yi_D_if2 true rfl (yi_ne_t h51) ?_
                refine yi_D_run 1 (85, [(5, .inl y5), (4, .inl 0), (0, .inr (.inr (some 82))), (1, .inl (a : Int)), (2, .inl (fr : Int)), (3, .inl ki)], [.inl 0, .inl 1], (I43, G1, R, Y), 0, 0) (fun _ => rfl) ?_
                have hcmp : (decide (¬ wv y5.toNat = 0) != decide (ki = 2)) = true := by
                  rw [show decide (¬ wv y5.toNat = 0) = true from decide_eq_true (by assumption), show decide (ki = 2) = false from decide_eq_false (by assumption)]
                  rfl
                refine yi_D_if2 false rfl (by decide) ?_
                refine yi_D_run 3 (92, [(5, .inl y5), (4, .inl 0), (0, .inr (.inr (some 82))), (1, .inl (a : Int)), (2, .inl (fr : Int)), (3, .inl ki)], [.inl y5, .inl (a : Int), .inr (.inr (some 82))], (I43, G1, R, Y), 0, 0) (fun _ => rfl) ?_
                refine yi_D_callv rfl (q_sets (a := a) (f := y5.toNat) hS rfl (by omega) ha (by omega)) ?_
                rintro _ ⟨L52, rfl, s153, s254, s355⟩
                show yi_D zi_Ms d zi_m75 j42 (95, [(5, .inl y5), (4, .inl 0), (0, .inr (.inr (some 82))), (1, .inl (a : Int)), (2, .inl (fr : Int)), (3, .inl ki)], [], (I43, L52, R, Y), 0, 0) _
                refine yi_D_iinc [(5, .inl (y5 + 1)), (4, .inl 0), (0, .inr (.inr (some 82))), (1, .inl (a : Int)), (2, .inl (fr : Int)), (3, .inl ki)] rfl rfl rfl (by rw [show yi_w (y5 + 1) = y5 + 1 from (yi_wn (by omega) (by omega)).trans (by omega)]; rfl) ?_
                refine yi_D_run 1 (42, [(5, .inl (y5 + 1)), (4, .inl 0), (0, .inr (.inr (some 82))), (1, .inl (a : Int)), (2, .inl (fr : Int)), (3, .inl ki)], [], (I43, L52, R, Y), 0, 0) (fun _ => rfl) ?_
                exact yi_D_mono (ih42 (by omega) (y5 + 1) I43 L52 (by omega) (fun f hf => by rw [s153 f, hbb f hf]; by_cases e : f = y5.toNat; rw [e, decide_eq_false (show ¬ ((y5.toNat : Int) < y5) by omega), decide_eq_true (show ((y5.toNat : Int) < y5 + 1) by omega), decide_eq_true rfl, Bool.false_and, Bool.false_or, Bool.true_and, hcmp]; rw [decide_eq_false e, Bool.or_false, show decide ((f : Int) < y5 + 1) = decide ((f : Int) < y5) by rw [decide_eq_decide]; omega]) (s254 n hok) (fun p i h => by rw [s355 p i (by omega)]; exact hlf p i h) fK k28 (fun h => absurd h (by omega))) (by omega)
        exact pt42 k (Nat.le_refl _) 0 I27 L1 (by omega) (fun f hf => by rw [hrb0 f hf, decide_eq_false (show ¬ ((f : Int) < 0) by omega), Bool.false_and]) hrk0 (fun p i h => hrf0 p i h) (fun p i h _ _ => by rw [← w28, yi_u_ne _ _ h]) (by rw [← w28, yi_u_eq]) (fun _ => rfl)
    · refine yi_D_if2 true rfl (yi_ne_t h29) ?_
      refine yi_D_run 4 (42, [(5, .inl 0), (4, .inl 0), (0, .inr (.inr (some 82))), (1, .inl (a : Int)), (2, .inl (fr : Int)), (3, .inl ki)], [], (I27, L1, R, Y), 0, 0) (fun _ => rfl) ?_
      have pt42 : ∀ j42, j42 ≤ k → ∀ (y5 : Int) (J1 : Nat → Nat → Int) (G1 : Nat → Nat → Int), (0 ≤ y5 ∧ y5 ≤ (F : Int)) → (∀ f, f < 64 * n → rbt G1 a f = (decide ((f : Int) < y5) && (decide (¬ wv f = 0) != decide (ki = 2)))) → (rok G1 a n) → (∀ p i, ¬ (p = 97 ∧ 512 * a ≤ i ∧ i < 512 * a + n) → G1 p i = L p i) → (∀ p i, ¬ (p = 82 ∧ i = 28) → ¬ p = 96 → ¬ p = 99 → J1 p i = I p i) → (J1 82 28 = 0) → ((0 : Int) = 1 → y5 = 0) → yi_D zi_Ms d zi_m75 j42 (42, [(5, .inl y5), (4, .inl 0), (0, .inr (.inr (some 82))), (1, .inl (a : Int)), (2, .inl (fr : Int)), (3, .inl ki)], [], (J1, G1, R, Y), 0, 0) (fun r => ∃ I' L', r = (none, (I', L', R, Y), 0, 0) ∧ (∀ f, f < 64 * n → rbt L' a f = (!(decide (ki = 4) && nmg I fr N) && (decide (f < F) && (decide (¬ wv f = 0) != decide (ki = 2))))) ∧ rok L' a n ∧ (∀ p i, ¬ (p = 97 ∧ 512 * a ≤ i ∧ i < 512 * a + n) → L' p i = L p i) ∧ I' 82 28 = 0 ∧ ∀ p i, ¬ (p = 82 ∧ i = 28) → ¬ p = 96 → ¬ p = 99 → I' p i = I p i) := by
        intro j42
        induction j42 with
        | zero => intros; exact yi_D_0
        | succ j42 ih42 =>
        intro hk42 y5 J1 G1 hy5 hbb hok hlf hfr h28 hnz
        have hFj : J1 82 24 = (F : Int) := (hfr 82 24 (by omega) (by omega) (by omega)).trans hF
        refine yi_D_run1 1 (45, [(5, .inl y5), (4, .inl 0), (0, .inr (.inr (some 82))), (1, .inl (a : Int)), (2, .inl (fr : Int)), (3, .inl ki)], [.inr (.inr (some 82)), .inl y5], (J1, G1, R, Y), 0, 0) (fun _ => rfl) ?_
        refine yi_D_gi (v := (F : Int)) rfl rfl rfl hFj (fun _ => ?_)
        by_cases h56 : (F : Int) ≤ y5
        · refine yi_D_if2 true rfl (yi_ge_t h56) ?_
          refine yi_D_run 2 (103, [(5, .inl y5), (4, .inl 0), (0, .inr (.inr (some 82))), (1, .inl (a : Int)), (2, .inl (fr : Int)), (3, .inl ki)], [.inl 0, .inr (.inr (some 82))], (J1, G1, R, Y), 0, 0) (fun _ => rfl) ?_
          refine yi_D_pi rfl (fun _ => ?_)
          generalize w58 : yi_u J1 82 28 0 = I57
          refine yi_D_retv rfl ?_
          have enn : (decide (ki = 4) && nmg I fr N) = false := by
            rw [Bool.and_eq_false_iff]; first | exact Or.inl (decide_eq_false (by assumption)) | (right; rw [← Bool.not_eq_true]; assumption)
          refine ⟨_, _, rfl, fun f hf => ?_, hok, hlf, by rw [← w58, yi_u_eq], fun p i h1 h2 h3 => by rw [← w58, yi_u_ne _ _ h1]; exact hfr p i h1 h2 h3⟩
          rw [hbb f hf, enn, show decide ((f : Int) < y5) = decide (f < F) by rw [decide_eq_decide]; omega]
          rfl
        · refine yi_D_if2 false rfl (yi_ge_f h56) ?_
          refine yi_D_run 1 (53, [(5, .inl y5), (4, .inl 0), (0, .inr (.inr (some 82))), (1, .inl (a : Int)), (2, .inl (fr : Int)), (3, .inl ki)], [.inl 0], (J1, G1, R, Y), 0, 0) (fun _ => rfl) ?_
          refine yi_D_if1 false rfl (by decide) ?_
          refine yi_D_run 2 (59, [(5, .inl y5), (4, .inl 0), (0, .inr (.inr (some 82))), (1, .inl (a : Int)), (2, .inl (fr : Int)), (3, .inl ki)], [.inl y5, .inr (.inr (some 82))], (J1, G1, R, Y), 0, 0) (fun _ => rfl) ?_
          refine yi_D_callv rfl (q_laysFutureI (f := y5.toNat) (m := m) (show y5 = ((y5.toNat : Nat) : Int) by omega) hS ((hfr 88 0 (by omega) (by omega) (by omega)).trans hda) ((hfr 88 1 (by omega) (by omega) (by omega)).trans hpe) ((hfr 88 2 (by omega) (by omega) (by omega)).trans hev) bld hm (by omega) (fun k hk => (hfr 98 k (by omega) (by omega) (by omega)).trans (hpw k hk))) ?_
          rintro _ ⟨I59, rfl, d60, fI61⟩
          show yi_D zi_Ms d zi_m75 j42 (62, [(5, .inl y5), (4, .inl 0), (0, .inr (.inr (some 82))), (1, .inl (a : Int)), (2, .inl (fr : Int)), (3, .inl ki)], [], (I59, G1, R, Y), 0, 0) _
          refine yi_D_run 2 (64, [(5, .inl y5), (4, .inl 0), (0, .inr (.inr (some 82))), (1, .inl (a : Int)), (2, .inl (fr : Int)), (3, .inl ki)], [.inl (fr : Int), .inr (.inr (some 82))], (I59, G1, R, Y), 0, 0) (fun _ => rfl) ?_
          obtain ⟨hclf, skf, hpf⟩ := hp y5.toNat (by omega)
          have fJ : ∀ p i, ¬ (p = 82 ∧ i = 28) → ¬ p = 96 → ¬ p = 99 → I59 p i = I p i := fun p i h1 h2 h3 => (fI61 p i h3).trans (hfr p i h1 h2 h3)
          have hpg := pgS_vg (vg' := ¬ I59 82 28 = 0) (by rw [fI61 82 28 (by omega), h28]; exact ⟨fun h => absurd h (by omega), fun h => absurd rfl h⟩) (pgS_c (h' := I59 99) (pgS_t (J := I59) hpf (fun k => fJ 89 k (by omega) (by omega) (by omega)) (fun k => fJ 90 k (by omega) (by omega) (by omega))) (fun he k hk => (d60 k (by rw [hm]; unfold mny; rw [if_neg (by omega)]; exact hk)).symm))
          refine yi_D_callv rfl (q_worthAt (fa := fa) hS ((fJ 88 0 (by omega) (by omega) (by omega)).trans hda) ((fJ 88 1 (by omega) (by omega) (by omega)).trans hpe) ((fJ 88 2 (by omega) (by omega) (by omega)).trans hev) bld (fun j hj => (fJ 95 j (by omega) (by omega) (by omega)).trans (hfa j hj)) hpg) ?_
          rintro _ ⟨I62, rfl, fW63⟩
          have fK : ∀ p i, ¬ (p = 82 ∧ i = 28) → ¬ p = 96 → ¬ p = 99 → I62 p i = I p i := fun p i h1 h2 h3 => (fW63 p i h2).trans (fJ p i h1 h2 h3)
          have k28 : I62 82 28 = 0 := (fW63 82 28 (by omega)).trans ((fI61 82 28 (by omega)).trans h28)
          show yi_D zi_Ms d zi_m75 j42 (67, [(5, .inl y5), (4, .inl 0), (0, .inr (.inr (some 82))), (1, .inl (a : Int)), (2, .inl (fr : Int)), (3, .inl ki)], [.inl (wv y5.toNat)], (I62, G1, R, Y), 0, 0) _
          by_cases h64 : (wv y5.toNat) = 0
          · refine yi_D_if1 true rfl (yi_eq_t h64) ?_
            refine yi_D_run 3 (77, [(5, .inl y5), (4, .inl 0), (0, .inr (.inr (some 82))), (1, .inl (a : Int)), (2, .inl (fr : Int)), (3, .inl ki)], [.inl 2, .inl ki, .inl 0], (I62, G1, R, Y), 0, 0) (fun _ => rfl) ?_
            by_cases h65 : ki = 2
            · refine yi_D_if2 false rfl (yi_ne_f h65) ?_
              refine yi_D_run 2 (85, [(5, .inl y5), (4, .inl 0), (0, .inr (.inr (some 82))), (1, .inl (a : Int)), (2, .inl (fr : Int)), (3, .inl ki)], [.inl 1, .inl 0], (I62, G1, R, Y), 0, 0) (fun _ => rfl) ?_
              have hcmp : (decide (¬ wv y5.toNat = 0) != decide (ki = 2)) = true := by
                rw [show decide (¬ wv y5.toNat = 0) = false from decide_eq_false (fun h => h (by assumption)), show decide (ki = 2) = true from decide_eq_true (by assumption)]
                rfl
              refine yi_D_if2 false rfl (by decide) ?_
              refine yi_D_run 3 (92, [(5, .inl y5), (4, .inl 0), (0, .inr (.inr (some 82))), (1, .inl (a : Int)), (2, .inl (fr : Int)), (3, .inl ki)], [.inl y5, .inl (a : Int), .inr (.inr (some 82))], (I62, G1, R, Y), 0, 0) (fun _ => rfl) ?_
              refine yi_D_callv rfl (q_sets (a := a) (f := y5.toNat) hS rfl (by omega) ha (by omega)) ?_
              rintro _ ⟨L66, rfl, s167, s268, s369⟩
              show yi_D zi_Ms d zi_m75 j42 (95, [(5, .inl y5), (4, .inl 0), (0, .inr (.inr (some 82))), (1, .inl (a : Int)), (2, .inl (fr : Int)), (3, .inl ki)], [], (I62, L66, R, Y), 0, 0) _
              refine yi_D_iinc [(5, .inl (y5 + 1)), (4, .inl 0), (0, .inr (.inr (some 82))), (1, .inl (a : Int)), (2, .inl (fr : Int)), (3, .inl ki)] rfl rfl rfl (by rw [show yi_w (y5 + 1) = y5 + 1 from (yi_wn (by omega) (by omega)).trans (by omega)]; rfl) ?_
              refine yi_D_run 1 (42, [(5, .inl (y5 + 1)), (4, .inl 0), (0, .inr (.inr (some 82))), (1, .inl (a : Int)), (2, .inl (fr : Int)), (3, .inl ki)], [], (I62, L66, R, Y), 0, 0) (fun _ => rfl) ?_
              exact yi_D_mono (ih42 (by omega) (y5 + 1) I62 L66 (by omega) (fun f hf => by rw [s167 f, hbb f hf]; by_cases e : f = y5.toNat; rw [e, decide_eq_false (show ¬ ((y5.toNat : Int) < y5) by omega), decide_eq_true (show ((y5.toNat : Int) < y5 + 1) by omega), decide_eq_true rfl, Bool.false_and, Bool.false_or, Bool.true_and, hcmp]; rw [decide_eq_false e, Bool.or_false, show decide ((f : Int) < y5 + 1) = decide ((f : Int) < y5) by rw [decide_eq_decide]; omega]) (s268 n hok) (fun p i h => by rw [s369 p i (by omega)]; exact hlf p i h) fK k28 (fun h => absurd h (by omega))) (by omega)
            · refine yi_D_if2 true rfl (yi_ne_t h65) ?_
              refine yi_D_run 1 (85, [(5, .inl y5), (4, .inl 0), (0, .inr (.inr (some 82))), (1, .inl (a : Int)), (2, .inl (fr : Int)), (3, .inl ki)], [.inl 0, .inl 0], (I62, G1, R, Y), 0, 0) (fun _ => rfl) ?_
              have hcmp : (decide (¬ wv y5.toNat = 0) != decide (ki = 2)) = false := by
                rw [show decide (¬ wv y5.toNat = 0) = false from decide_eq_false (fun h => h (by assumption)), show decide (ki = 2) = false from decide_eq_false (by assumption)]
                rfl
              refine yi_D_if2 true rfl (by decide) ?_
              refine yi_D_iinc [(5, .inl (y5 + 1)), (4, .inl 0), (0, .inr (.inr (some 82))), (1, .inl (a : Int)), (2, .inl (fr : Int)), (3, .inl ki)] rfl rfl rfl (by rw [show yi_w (y5 + 1) = y5 + 1 from (yi_wn (by omega) (by omega)).trans (by omega)]; rfl) ?_
              refine yi_D_run 1 (42, [(5, .inl (y5 + 1)), (4, .inl 0), (0, .inr (.inr (some 82))), (1, .inl (a : Int)), (2, .inl (fr : Int)), (3, .inl ki)], [], (I62, G1, R, Y), 0, 0) (fun _ => rfl) ?_
              exact yi_D_mono (ih42 (by omega) (y5 + 1) I62 G1 (by omega) (fun f hf => by rw [hbb f hf]; by_cases e : f = y5.toNat; rw [e, hcmp, Bool.and_false, Bool.and_false]; rw [show decide ((f : Int) < y5 + 1) = decide ((f : Int) < y5) by rw [decide_eq_decide]; omega]) hok hlf fK k28 (fun h => absurd h (by omega))) (by omega)
          · refine yi_D_if1 false rfl (yi_eq_f h64) ?_
            refine yi_D_run 4 (77, [(5, .inl y5), (4, .inl 0), (0, .inr (.inr (some 82))), (1, .inl (a : Int)), (2, .inl (fr : Int)), (3, .inl ki)], [.inl 2, .inl ki, .inl 1], (I62, G1, R, Y), 0, 0) (fun _ => rfl) ?_
            by_cases h70 : ki = 2
            · refine yi_D_if2 false rfl (yi_ne_f h70) ?_
              refine yi_D_run 2 (85, [(5, .inl y5), (4, .inl 0), (0, .inr (.inr (some 82))), (1, .inl (a : Int)), (2, .inl (fr : Int)), (3, .inl ki)], [.inl 1, .inl 1], (I62, G1, R, Y), 0, 0) (fun _ => rfl) ?_
              have hcmp : (decide (¬ wv y5.toNat = 0) != decide (ki = 2)) = false := by
                rw [show decide (¬ wv y5.toNat = 0) = true from decide_eq_true (by assumption), show decide (ki = 2) = true from decide_eq_true (by assumption)]
                rfl
              refine yi_D_if2 true rfl (by decide) ?_
              refine yi_D_iinc [(5, .inl (y5 + 1)), (4, .inl 0), (0, .inr (.inr (some 82))), (1, .inl (a : Int)), (2, .inl (fr : Int)), (3, .inl ki)] rfl rfl rfl (by rw [show yi_w (y5 + 1) = y5 + 1 from (yi_wn (by omega) (by omega)).trans (by omega)]; rfl) ?_
              refine yi_D_run 1 (42, [(5, .inl (y5 + 1)), (4, .inl 0), (0, .inr (.inr (some 82))), (1, .inl (a : Int)), (2, .inl (fr : Int)), (3, .inl ki)], [], (I62, G1, R, Y), 0, 0) (fun _ => rfl) ?_
              exact yi_D_mono (ih42 (by omega) (y5 + 1) I62 G1 (by omega) (fun f hf => by rw [hbb f hf]; by_cases e : f = y5.toNat; rw [e, hcmp, Bool.and_false, Bool.and_false]; rw [show decide ((f : Int) < y5 + 1) = decide ((f : Int) < y5) by rw [decide_eq_decide]; omega]) hok hlf fK k28 (fun h => absurd h (by omega))) (by omega)
            · refine yi_D_if2 true rfl (yi_ne_t h70) ?_
              refine yi_D_run 1 (85, [(5, .inl y5), (4, .inl 0), (0, .inr (.inr (some 82))), (1, .inl (a : Int)), (2, .inl (fr : Int)), (3, .inl ki)], [.inl 0, .inl 1], (I62, G1, R, Y), 0, 0) (fun _ => rfl) ?_
              have hcmp : (decide (¬ wv y5.toNat = 0) != decide (ki = 2)) = true := by
                rw [show decide (¬ wv y5.toNat = 0) = true from decide_eq_true (by assumption), show decide (ki = 2) = false from decide_eq_false (by assumption)]
                rfl
              refine yi_D_if2 false rfl (by decide) ?_
              refine yi_D_run 3 (92, [(5, .inl y5), (4, .inl 0), (0, .inr (.inr (some 82))), (1, .inl (a : Int)), (2, .inl (fr : Int)), (3, .inl ki)], [.inl y5, .inl (a : Int), .inr (.inr (some 82))], (I62, G1, R, Y), 0, 0) (fun _ => rfl) ?_
              refine yi_D_callv rfl (q_sets (a := a) (f := y5.toNat) hS rfl (by omega) ha (by omega)) ?_
              rintro _ ⟨L71, rfl, s172, s273, s374⟩
              show yi_D zi_Ms d zi_m75 j42 (95, [(5, .inl y5), (4, .inl 0), (0, .inr (.inr (some 82))), (1, .inl (a : Int)), (2, .inl (fr : Int)), (3, .inl ki)], [], (I62, L71, R, Y), 0, 0) _
              refine yi_D_iinc [(5, .inl (y5 + 1)), (4, .inl 0), (0, .inr (.inr (some 82))), (1, .inl (a : Int)), (2, .inl (fr : Int)), (3, .inl ki)] rfl rfl rfl (by rw [show yi_w (y5 + 1) = y5 + 1 from (yi_wn (by omega) (by omega)).trans (by omega)]; rfl) ?_
              refine yi_D_run 1 (42, [(5, .inl (y5 + 1)), (4, .inl 0), (0, .inr (.inr (some 82))), (1, .inl (a : Int)), (2, .inl (fr : Int)), (3, .inl ki)], [], (I62, L71, R, Y), 0, 0) (fun _ => rfl) ?_
              exact yi_D_mono (ih42 (by omega) (y5 + 1) I62 L71 (by omega) (fun f hf => by rw [s172 f, hbb f hf]; by_cases e : f = y5.toNat; rw [e, decide_eq_false (show ¬ ((y5.toNat : Int) < y5) by omega), decide_eq_true (show ((y5.toNat : Int) < y5 + 1) by omega), decide_eq_true rfl, Bool.false_and, Bool.false_or, Bool.true_and, hcmp]; rw [decide_eq_false e, Bool.or_false, show decide ((f : Int) < y5 + 1) = decide ((f : Int) < y5) by rw [decide_eq_decide]; omega]) (s273 n hok) (fun p i h => by rw [s374 p i (by omega)]; exact hlf p i h) fK k28 (fun h => absurd h (by omega))) (by omega)
      exact pt42 k (Nat.le_refl _) 0 I27 L1 (by omega) (fun f hf => by rw [hrb0 f hf, decide_eq_false (show ¬ ((f : Int) < 0) by omega), Bool.false_and]) hrk0 (fun p i h => hrf0 p i h) (fun p i h _ _ => by rw [← w28, yi_u_ne _ _ h]) (by rw [← w28, yi_u_eq]) (fun _ => rfl)
