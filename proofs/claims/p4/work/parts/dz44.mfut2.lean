/-! The check: a future; alike on the days that there are. -/
theorem dur_c {g g' : Nat → Bool} {lo : Nat} : ∀ k, (∀ d, lo ≤ d → d < lo + k → g d = g' d) → dur g lo k = dur g' lo k
  | 0, _ => rfl
  | k + 1, h => by
    show (dur g lo k || g (lo + k)) = (dur g' lo k || g' (lo + k))
    rw [dur_c k (fun d h1 h2 => h d h1 (by omega)), h (lo + k) (by omega) (by omega)]
theorem cnt_c {g g' : Nat → Bool} : ∀ k, (∀ d, 1 ≤ d → d ≤ k → g d = g' d) → cnt g k = cnt g' k
  | 0, _ => rfl
  | k + 1, h => by
    show cnt g k + (if g (k + 1) then 1 else 0) = cnt g' k + (if g' (k + 1) then 1 else 0)
    rw [cnt_c k (fun d h1 h2 => h d h1 (by omega)), h (k + 1) (by omega) (by omega)]
theorem prA_c {g g' e e' : Nat → Bool} : ∀ k, (∀ d, 1 ≤ d → d ≤ k → g d = g' d ∧ e d = e' d) → prA g e k = prA g' e' k
  | 0, _ => rfl
  | k + 1, h => by
    show (prA g e k || (g (k + 1) && !dur e 1 (k + 1))) = (prA g' e' k || (g' (k + 1) && !dur e' 1 (k + 1)))
    rw [prA_c k (fun d h1 h2 => h d h1 (by omega)), (h (k + 1) (by omega) (by omega)).1, dur_c (k + 1) (fun d h1 h2 => (h d h1 (by omega)).2)]
theorem prT_c {g g' e e' : Nat → Bool} : ∀ k, (∀ d, 1 ≤ d → d ≤ k → g d = g' d ∧ e d = e' d) → prT g e k = prT g' e' k
  | 0, _ => rfl
  | k + 1, h => by
    show (prT g e k || (g (k + 1) && e (k + 1))) = (prT g' e' k || (g' (k + 1) && e' (k + 1)))
    rw [prT_c k (fun d h1 h2 => h d h1 (by omega)), (h (k + 1) (by omega) (by omega)).1, (h (k + 1) (by omega) (by omega)).2]
theorem ho_c {g g' : Nat → Bool} {da w n : Nat} {vg : Prop} [Decidable vg] (hn : w ≤ 2 → 1 ≤ n ∧ n ≤ da) (h : ∀ d, 1 ≤ d → d ≤ da → g d = g' d) : ho g da vg w n = ho g' da vg w n := by
  have ha := dur_c (g := g) (g' := g') (lo := 1) da (fun d h1 h2 => h d h1 (by omega))
  have hc := cnt_c (g := g) (g' := g') da h
  unfold ho
  by_cases c : w ≤ 2
  · have z := hn c
    rw [dur_c (g := g) (g' := g') (lo := 1) n (fun d h1 h2 => h d h1 (by omega)), dur_c (g := g) (g' := g') (lo := n) (da + 1 - n) (fun d h1 h2 => h d (by omega) (by omega)), h n z.1 z.2, ha, hc]
  · rw [if_neg (show ¬ w = 0 by omega), if_neg (show ¬ w = 1 by omega), if_neg (show ¬ w = 2 by omega), if_neg (show ¬ w = 0 by omega), if_neg (show ¬ w = 1 by omega), if_neg (show ¬ w = 2 by omega), ha, hc]
theorem al_c {f f' : Nat → Bool} : ∀ k, (∀ p, p < k → f p = f' p) → al f k = al f' k
  | 0, _ => rfl
  | k + 1, h => by
    show (al f k && f k) = (al f' k && f' k)
    rw [al_c k (fun p hp => h p (by omega)), h k (by omega)]
theorem so_c {f f' : Nat → Bool} : ∀ k, (∀ p, p < k → f p = f' p) → so f k = so f' k
  | 0, _ => rfl
  | k + 1, h => by
    show (so f k || f k) = (so f' k || f' k)
    rw [so_c k (fun p hp => h p (by omega)), h k (by omega)]
/-- a clause looks at the futures' digits alone -/
theorem hC_c {h h' : Nat → Int} {pe ev da who e wh n : Nat} {vg : Prop} [Decidable vg] (hk : cvk pe da who e wh n) (hh : 0 < ev → ∀ k, k < da * pe → h k = h' k) : hC h pe ev da vg who e wh n = hC h' pe ev da vg who e wh n := by
  have hbe : ∀ p, p < pe → ∀ d, 1 ≤ d → d ≤ da → hb h pe ev p (e : Int) d = hb h' pe ev p (e : Int) d := by
    intro p hp d h1 h2
    unfold hb
    by_cases c : 0 < ev
    · rw [hh c _ (kx_lt (show d - 1 < da by omega) hp)]
    · rw [decide_eq_false (fun z => c z.1), decide_eq_false (fun z => c z.1)]
  obtain ⟨k1, k2, k3, k4, k5, k6⟩ := hk
  unfold hC
  by_cases c8 : wh = 8
  · rw [if_pos c8, if_pos c8]
    have z := k5 (by omega)
    exact prA_c da (fun d h1 h2 => ⟨hbe _ z.1 d h1 h2, hbe _ z.2 d h1 h2⟩)
  · rw [if_neg c8, if_neg c8]
    by_cases c7 : wh = 7
    · rw [if_pos c7, if_pos c7]
      have z := k5 (by omega)
      exact prT_c da (fun d h1 h2 => ⟨hbe _ z.1 d h1 h2, hbe _ z.2 d h1 h2⟩)
    · rw [if_neg c7, if_neg c7]
      have hf : ∀ p, p < pe → fC h pe ev da vg who e wh n p = fC h' pe ev da vg who e wh n p := by
        intro p hp
        unfold fC
        rw [ho_c k6 (fun d h1 h2 => hbe p hp d h1 h2)]
      rw [al_c pe hf, so_c pe hf]
/-- a program is worth as much where the digits are alike -/
theorem pgS_c {I : Nat → Nat → Int} {pe ev da : Nat} {vg : Prop} [Decidable vg] {h h' : Nat → Int} {fa : Nat → Int} {hcl : Int → Bool} {fr N : Nat} {sk : Nat → List Int} {v : Int} (hp : pgS I pe ev da vg h fa hcl fr N sk v) (hh : 0 < ev → ∀ k, k < da * pe → h k = h' k) : pgS I pe ev da vg h' fa hcl fr N sk v := by
  obtain ⟨a1, a2, a3⟩ := hp
  refine ⟨a1, fun k hk => ?_, a3⟩
  obtain ⟨b1, b2, b3, b4⟩ := a2 k hk
  refine ⟨b1, b2, b3, fun h11 => ?_⟩
  obtain ⟨who, e, wh, n, c1, c2, c3⟩ := b4 h11
  exact ⟨who, e, wh, n, c1, c2, c3.trans (hC_c c2 hh)⟩
theorem pgS_t {I J : Nat → Nat → Int} {pe ev da : Nat} {vg : Prop} [Decidable vg] {h : Nat → Int} {fa : Nat → Int} {hcl : Int → Bool} {fr N : Nat} {sk : Nat → List Int} {v : Int} (hp : pgS I pe ev da vg h fa hcl fr N sk v) (e1 : ∀ k, J 89 k = I 89 k) (e2 : ∀ k, J 90 k = I 90 k) : pgS J pe ev da vg h fa hcl fr N sk v := by
  obtain ⟨a1, a2, a3, a4⟩ := hp
  refine ⟨a1, fun k hk => ?_, by rw [e1]; exact a3, a4⟩
  rw [e1, e2]
  exact a2 k hk
/-- a future's digit -/
def dg (ev m f k : Nat) : Nat := f / ev ^ (m - 1 - k) % ev
def mny (da pe ev : Nat) : Nat := if ev = 0 then 0 else da * pe
theorem q_laysFuture {d : Nat} {I L : Nat → Nat → Int} {R : Nat → Nat → Option Nat} {Y : (Nat → Nat) × (Nat → Nat) × Nat} (hS : ym_S (R, Y)) {da pe ev m f : Nat} (hda : I 88 0 = (da : Int)) (hpe : I 88 1 = (pe : Int)) (hev : I 88 2 = (ev : Int)) (bld : da ≤ 6 ∧ pe ≤ 4 ∧ ev ≤ 4) (hm : m = mny da pe ev) (hf : f ≤ 32768) (hpw : ∀ k, k < m → I 98 k = ((ev ^ (m - 1 - k) : Nat) : Int)) : yi_P zi_Ms d 76 [.inr (.inr (some 82)), .inl (f : Int)] (I, L, R, Y) (fun r => ∃ I', r = (none, (I', L, R, Y), 0, 0) ∧ (∀ k, k < m → I' 99 k = ((dg ev m f k : Nat) : Int)) ∧ ∀ p i, ¬ p = 99 → I' p i = I p i) := by
  refine yi_P_of (M := zi_m76) rfl (fun d k => ?_)
  have hPi : (da : Int) * (pe : Int) = ((da * pe : Nat) : Int) := by rw [Int.natCast_mul]
  have hm24 : da * pe ≤ 6 * 4 := Nat.mul_le_mul bld.1 bld.2.1
  have hmi : (ev = 0 → m = 0) ∧ (¬ ev = 0 → m = da * pe) := by
    unfold mny at hm
    exact ⟨fun z => by rw [hm, if_pos z], fun z => by rw [hm, if_neg z]⟩
  show yi_D zi_Ms d zi_m76 k (0, [(0, .inr (.inr (some 82))), (1, .inl (f : Int))], [], (I, L, R, Y), 0, 0) _
  refine yi_D_run 1 (1, [(0, .inr (.inr (some 82))), (1, .inl (f : Int))], [.inr (.inr (some 82))], (I, L, R, Y), 0, 0) (fun _ => rfl) ?_
  refine yi_D_callv rfl (q_events hS hev) ?_
  rintro _ rfl
  show yi_D zi_Ms d zi_m76 k (4, [(0, .inr (.inr (some 82))), (1, .inl (f : Int))], [.inl (ev : Int)], (I, L, R, Y), 0, 0) _
  by_cases h1 : (ev : Int) = 0
  · refine yi_D_if1 false rfl (yi_ne_f h1) ?_
    refine yi_D_run 5 (23, [(3, .inl 0), (2, .inl 0), (0, .inr (.inr (some 82))), (1, .inl (f : Int))], [], (I, L, R, Y), 0, 0) (fun _ => rfl) ?_
    have pt23 : ∀ j23, j23 ≤ k → ∀ (y3 : Int) (n2 : Int) (J1 : Nat → Nat → Int), (0 ≤ y3 ∧ y3 ≤ n2 ∧ n2 = (m : Int)) → (∀ k : Nat, (k : Int) < y3 → J1 99 k = ((dg ev m f k : Nat) : Int)) → (∀ p i, ¬ p = 99 → J1 p i = I p i) → yi_D zi_Ms d zi_m76 j23 (23, [(3, .inl y3), (2, .inl n2), (0, .inr (.inr (some 82))), (1, .inl (f : Int))], [], (J1, L, R, Y), 0, 0) (fun r => ∃ I', r = (none, (I', L, R, Y), 0, 0) ∧ (∀ k, k < m → I' 99 k = ((dg ev m f k : Nat) : Int)) ∧ ∀ p i, ¬ p = 99 → I' p i = I p i) := by
      intro j23
      induction j23 with
      | zero => intros; exact yi_D_0
      | succ j23 ih23 =>
      intro hk23 y3 n2 J1 hy3 hv hfr
      refine yi_D_run1 1 (25, [(3, .inl y3), (2, .inl n2), (0, .inr (.inr (some 82))), (1, .inl (f : Int))], [.inl n2, .inl y3], (J1, L, R, Y), 0, 0) (fun _ => rfl) ?_
      by_cases h2 : n2 ≤ y3
      · refine yi_D_if2 true rfl (yi_ge_t h2) ?_
        refine yi_D_retv rfl ?_
        exact ⟨_, rfl, fun k hk => hv k (by omega), hfr⟩
      · refine yi_D_if2 false rfl (yi_ge_f h2) ?_
        refine yi_D_run 1 (29, [(3, .inl y3), (2, .inl n2), (0, .inr (.inr (some 82))), (1, .inl (f : Int))], [.inr (.inr (some 82))], (J1, L, R, Y), 0, 0) (fun _ => rfl) ?_
        refine yi_D_gr (v := some 99) rfl rfl rfl (ym_S_at hS (j := 16) rfl).1 (fun _ => ?_)
        refine yi_D_run 3 (35, [(3, .inl y3), (2, .inl n2), (0, .inr (.inr (some 82))), (1, .inl (f : Int))], [.inr (.inr (some 82)), .inl (f : Int), .inl y3, .inr (.inr (some 99))], (J1, L, R, Y), 0, 0) (fun _ => rfl) ?_
        refine yi_D_gr (v := some 98) rfl rfl rfl (ym_S_at hS (j := 15) rfl).1 (fun _ => ?_)
        refine yi_D_run 1 (39, [(3, .inl y3), (2, .inl n2), (0, .inr (.inr (some 82))), (1, .inl (f : Int))], [.inl y3, .inr (.inr (some 98)), .inl (f : Int), .inl y3, .inr (.inr (some 99))], (J1, L, R, Y), 0, 0) (fun _ => rfl) ?_
        have hpr : J1 98 (y3.toNat) = ((ev ^ (m - 1 - y3.toNat) : Nat) : Int) := by rw [hfr 98 _ (by omega)]; exact hpw _ (by omega)
        have hpp : 0 < ev ^ (m - 1 - y3.toNat) := Nat.pow_pos (by omega)
        have hdl : f / ev ^ (m - 1 - y3.toNat) ≤ f := Nat.div_le_self _ _
        have hd0 : 0 ≤ (f : Int) / ((ev ^ (m - 1 - y3.toNat) : Nat) : Int) := Int.ediv_nonneg (by omega) (by omega)
        refine yi_D_il (v := ((ev ^ (m - 1 - y3.toNat) : Nat) : Int)) rfl rfl hpr (fun _ _ => ?_)
        refine yi_D_idiv rfl (by omega) (((f / ev ^ (m - 1 - y3.toNat) : Nat) : Int)) (yi_dv (by omega) rfl (by omega) (by omega)) ?_
        refine yi_D_run 1 (42, [(3, .inl y3), (2, .inl n2), (0, .inr (.inr (some 82))), (1, .inl (f : Int))], [.inr (.inr (some 82)), .inl ((f / ev ^ (m - 1 - y3.toNat) : Nat) : Int), .inl y3, .inr (.inr (some 99))], (J1, L, R, Y), 0, 0) (fun _ => rfl) ?_
        refine yi_D_callv rfl (q_events hS (show J1 88 2 = (ev : Int) from (hfr 88 2 (by omega)).trans hev)) ?_
        rintro _ rfl
        show yi_D zi_Ms d zi_m76 j23 (45, [(3, .inl y3), (2, .inl n2), (0, .inr (.inr (some 82))), (1, .inl (f : Int))], [.inl (ev : Int), .inl ((f / ev ^ (m - 1 - y3.toNat) : Nat) : Int), .inl y3, .inr (.inr (some 99))], (J1, L, R, Y), 0, 0) _
        refine yi_D_irem rfl (by omega) (((f / ev ^ (m - 1 - y3.toNat) : Nat) : Int) % (ev : Int)) (yi_md (by omega) rfl) ?_
        refine yi_D_is rfl (fun _ _ => ?_)
        generalize w4 : yi_u J1 99 (y3.toNat) (((f / ev ^ (m - 1 - y3.toNat) : Nat) : Int) % (ev : Int)) = I3
        refine yi_D_iinc [(3, .inl (y3 + 1)), (2, .inl n2), (0, .inr (.inr (some 82))), (1, .inl (f : Int))] rfl rfl rfl (by rw [show yi_w (y3 + 1) = y3 + 1 from (yi_wn (by omega) (by omega)).trans (by omega)]; rfl) ?_
        refine yi_D_run 1 (23, [(3, .inl (y3 + 1)), (2, .inl n2), (0, .inr (.inr (some 82))), (1, .inl (f : Int))], [], (I3, L, R, Y), 0, 0) (fun _ => rfl) ?_
        exact yi_D_mono (ih23 (by omega) (y3 + 1) n2 I3 (by omega) (fun k hk => by by_cases e : (k : Int) = y3; rw [← w4, show k = y3.toNat by omega, yi_u_eq]; rfl; rw [← w4, yi_u_ne _ _ (by omega)]; exact hv k (by omega)) (fun p i h => by rw [← w4, yi_u_ne _ _ (by omega)]; exact hfr p i h)) (by omega)
    exact pt23 k (Nat.le_refl _) 0 0 I (by omega) (fun k hk => absurd hk (by omega)) (fun _ _ _ => rfl)
  · refine yi_D_if1 true rfl (yi_ne_t h1) ?_
    refine yi_D_run 1 (12, [(0, .inr (.inr (some 82))), (1, .inl (f : Int))], [.inr (.inr (some 82))], (I, L, R, Y), 0, 0) (fun _ => rfl) ?_
    refine yi_D_callv rfl (q_days hS hda) ?_
    rintro _ rfl
    show yi_D zi_Ms d zi_m76 k (15, [(0, .inr (.inr (some 82))), (1, .inl (f : Int))], [.inl (da : Int)], (I, L, R, Y), 0, 0) _
    refine yi_D_run 1 (16, [(0, .inr (.inr (some 82))), (1, .inl (f : Int))], [.inr (.inr (some 82)), .inl (da : Int)], (I, L, R, Y), 0, 0) (fun _ => rfl) ?_
    refine yi_D_callv rfl (q_people hS hpe) ?_
    rintro _ rfl
    show yi_D zi_Ms d zi_m76 k (19, [(0, .inr (.inr (some 82))), (1, .inl (f : Int))], [.inl (pe : Int), .inl (da : Int)], (I, L, R, Y), 0, 0) _
    refine yi_D_imul rfl (((da * pe : Nat) : Int)) (by rw [hPi]; exact yi_wn (by omega) (by omega)) ?_
    refine yi_D_run 3 (23, [(3, .inl 0), (2, .inl ((da * pe : Nat) : Int)), (0, .inr (.inr (some 82))), (1, .inl (f : Int))], [], (I, L, R, Y), 0, 0) (fun _ => rfl) ?_
    have pt23 : ∀ j23, j23 ≤ k → ∀ (y3 : Int) (n2 : Int) (J1 : Nat → Nat → Int), (0 ≤ y3 ∧ y3 ≤ n2 ∧ n2 = (m : Int)) → (∀ k : Nat, (k : Int) < y3 → J1 99 k = ((dg ev m f k : Nat) : Int)) → (∀ p i, ¬ p = 99 → J1 p i = I p i) → yi_D zi_Ms d zi_m76 j23 (23, [(3, .inl y3), (2, .inl n2), (0, .inr (.inr (some 82))), (1, .inl (f : Int))], [], (J1, L, R, Y), 0, 0) (fun r => ∃ I', r = (none, (I', L, R, Y), 0, 0) ∧ (∀ k, k < m → I' 99 k = ((dg ev m f k : Nat) : Int)) ∧ ∀ p i, ¬ p = 99 → I' p i = I p i) := by
      intro j23
      induction j23 with
      | zero => intros; exact yi_D_0
      | succ j23 ih23 =>
      intro hk23 y3 n2 J1 hy3 hv hfr
      refine yi_D_run1 1 (25, [(3, .inl y3), (2, .inl n2), (0, .inr (.inr (some 82))), (1, .inl (f : Int))], [.inl n2, .inl y3], (J1, L, R, Y), 0, 0) (fun _ => rfl) ?_
      by_cases h5 : n2 ≤ y3
      · refine yi_D_if2 true rfl (yi_ge_t h5) ?_
        refine yi_D_retv rfl ?_
        exact ⟨_, rfl, fun k hk => hv k (by omega), hfr⟩
      · refine yi_D_if2 false rfl (yi_ge_f h5) ?_
        refine yi_D_run 1 (29, [(3, .inl y3), (2, .inl n2), (0, .inr (.inr (some 82))), (1, .inl (f : Int))], [.inr (.inr (some 82))], (J1, L, R, Y), 0, 0) (fun _ => rfl) ?_
        refine yi_D_gr (v := some 99) rfl rfl rfl (ym_S_at hS (j := 16) rfl).1 (fun _ => ?_)
        refine yi_D_run 3 (35, [(3, .inl y3), (2, .inl n2), (0, .inr (.inr (some 82))), (1, .inl (f : Int))], [.inr (.inr (some 82)), .inl (f : Int), .inl y3, .inr (.inr (some 99))], (J1, L, R, Y), 0, 0) (fun _ => rfl) ?_
        refine yi_D_gr (v := some 98) rfl rfl rfl (ym_S_at hS (j := 15) rfl).1 (fun _ => ?_)
        refine yi_D_run 1 (39, [(3, .inl y3), (2, .inl n2), (0, .inr (.inr (some 82))), (1, .inl (f : Int))], [.inl y3, .inr (.inr (some 98)), .inl (f : Int), .inl y3, .inr (.inr (some 99))], (J1, L, R, Y), 0, 0) (fun _ => rfl) ?_
        have hpr : J1 98 (y3.toNat) = ((ev ^ (m - 1 - y3.toNat) : Nat) : Int) := by rw [hfr 98 _ (by omega)]; exact hpw _ (by omega)
        have hpp : 0 < ev ^ (m - 1 - y3.toNat) := Nat.pow_pos (by omega)
        have hdl : f / ev ^ (m - 1 - y3.toNat) ≤ f := Nat.div_le_self _ _
        have hd0 : 0 ≤ (f : Int) / ((ev ^ (m - 1 - y3.toNat) : Nat) : Int) := Int.ediv_nonneg (by omega) (by omega)
        refine yi_D_il (v := ((ev ^ (m - 1 - y3.toNat) : Nat) : Int)) rfl rfl hpr (fun _ _ => ?_)
        refine yi_D_idiv rfl (by omega) (((f / ev ^ (m - 1 - y3.toNat) : Nat) : Int)) (yi_dv (by omega) rfl (by omega) (by omega)) ?_
        refine yi_D_run 1 (42, [(3, .inl y3), (2, .inl n2), (0, .inr (.inr (some 82))), (1, .inl (f : Int))], [.inr (.inr (some 82)), .inl ((f / ev ^ (m - 1 - y3.toNat) : Nat) : Int), .inl y3, .inr (.inr (some 99))], (J1, L, R, Y), 0, 0) (fun _ => rfl) ?_
        refine yi_D_callv rfl (q_events hS (show J1 88 2 = (ev : Int) from (hfr 88 2 (by omega)).trans hev)) ?_
        rintro _ rfl
        show yi_D zi_Ms d zi_m76 j23 (45, [(3, .inl y3), (2, .inl n2), (0, .inr (.inr (some 82))), (1, .inl (f : Int))], [.inl (ev : Int), .inl ((f / ev ^ (m - 1 - y3.toNat) : Nat) : Int), .inl y3, .inr (.inr (some 99))], (J1, L, R, Y), 0, 0) _
        refine yi_D_irem rfl (by omega) (((f / ev ^ (m - 1 - y3.toNat) : Nat) : Int) % (ev : Int)) (yi_md (by omega) rfl) ?_
        refine yi_D_is rfl (fun _ _ => ?_)
        generalize w7 : yi_u J1 99 (y3.toNat) (((f / ev ^ (m - 1 - y3.toNat) : Nat) : Int) % (ev : Int)) = I6
        refine yi_D_iinc [(3, .inl (y3 + 1)), (2, .inl n2), (0, .inr (.inr (some 82))), (1, .inl (f : Int))] rfl rfl rfl (by rw [show yi_w (y3 + 1) = y3 + 1 from (yi_wn (by omega) (by omega)).trans (by omega)]; rfl) ?_
        refine yi_D_run 1 (23, [(3, .inl (y3 + 1)), (2, .inl n2), (0, .inr (.inr (some 82))), (1, .inl (f : Int))], [], (I6, L, R, Y), 0, 0) (fun _ => rfl) ?_
        exact yi_D_mono (ih23 (by omega) (y3 + 1) n2 I6 (by omega) (fun k hk => by by_cases e : (k : Int) = y3; rw [← w7, show k = y3.toNat by omega, yi_u_eq]; rfl; rw [← w7, yi_u_ne _ _ (by omega)]; exact hv k (by omega)) (fun p i h => by rw [← w7, yi_u_ne _ _ (by omega)]; exact hfr p i h)) (by omega)
    exact pt23 k (Nat.le_refl _) 0 ((da * pe : Nat) : Int) I (by omega) (fun k hk => absurd hk (by omega)) (fun _ _ _ => rfl)
