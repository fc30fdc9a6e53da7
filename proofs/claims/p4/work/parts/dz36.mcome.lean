/-! The check: who came. -/
theorem sm_B_ca {I L I' L' : Nat → Nat → Int} {n da pe P pr ev x : Nat} {e : Int} {S : ss_T} (h : sm_B I L n P pr 0 S) (hok : ss_ok da P ev pr S) (hP : P = da * pe) (hb : da ≤ 6 ∧ pe ≤ 4 ∧ pr ≤ 5) (hx : x < pe) (ht : 1 ≤ S.1.2.1 ∧ S.1.2.1 ≤ da) (he : 0 ≤ e) (h0 : I' 100 (44 + (pe * (S.1.2.1 - 1) + x)) = e) (h1 : ((∀ j : Nat, j < pe → 0 ≤ I' 100 (44 + (pe * (S.1.2.1 - 1) + j))) ∧ I' 100 1 = (S.1.2.1 : Int) + 1) ∨ (¬ (∀ j : Nat, j < pe → 0 ≤ I' 100 (44 + (pe * (S.1.2.1 - 1) + j))) ∧ I' 100 1 = (S.1.2.1 : Int))) (h2 : ∀ i, i < 110 → ¬ i = 1 → ¬ i = 44 + (pe * (S.1.2.1 - 1) + x) → I' 100 i = I 100 i) (l : ∀ i k, i < S.1.1 → k < n → L' 97 (512 * (60 + i) + k) = L 97 (512 * (60 + i) + k)) : sm_B I' L' n P pr 0 (ss_ca S pe x e) := by
  obtain ⟨⟨a1, a2, a3⟩, a4, a5, a6, a7, a8⟩ := h
  have hP24 : P ≤ 24 := by rw [hP]; exact Nat.mul_le_mul hb.1 hb.2.1
  have hx24 := kx_lt (show S.1.2.1 - 1 < da by omega) hx
  rw [← hP] at hx24
  have o1 := hok.1
  have o2 := hok.2.2.1
  have hcm : ∀ k, k < P → I' 100 (44 + k) = cm_u S.2.2.2.2.1 (pe * (S.1.2.1 - 1) + x) e k := by
    intro k hk
    by_cases c : k = pe * (S.1.2.1 - 1) + x
    · rw [c, h0]; exact (if_pos rfl).symm
    · rw [h2 _ (by omega) (by omega) (by omega), show cm_u S.2.2.2.2.1 (pe * (S.1.2.1 - 1) + x) e k = S.2.2.2.2.1 k from if_neg c]
      exact (congrArg (I 100) (by omega)).trans (a7 k hk)
  have hall : (∀ j : Nat, j < pe → 0 ≤ I' 100 (44 + (pe * (S.1.2.1 - 1) + j))) ↔ (∀ j, j < pe → ¬ cm_u S.2.2.2.2.1 (pe * (S.1.2.1 - 1) + x) e (pe * (S.1.2.1 - 1) + j) = -1) := by
    have key : ∀ j, j < pe → (0 ≤ I' 100 (44 + (pe * (S.1.2.1 - 1) + j)) ↔ ¬ cm_u S.2.2.2.2.1 (pe * (S.1.2.1 - 1) + x) e (pe * (S.1.2.1 - 1) + j) = -1) := by
      intro j hj
      have hk := kx_lt (show S.1.2.1 - 1 < da by omega) hj
      rw [← hP] at hk
      rw [hcm _ hk]
      by_cases c : pe * (S.1.2.1 - 1) + j = pe * (S.1.2.1 - 1) + x
      · rw [show cm_u S.2.2.2.2.1 (pe * (S.1.2.1 - 1) + x) e (pe * (S.1.2.1 - 1) + j) = e from if_pos c]
        omega
      · rw [show cm_u S.2.2.2.2.1 (pe * (S.1.2.1 - 1) + x) e (pe * (S.1.2.1 - 1) + j) = S.2.2.2.2.1 (pe * (S.1.2.1 - 1) + j) from if_neg c]
        have := hok.2.2.2.1 _ hk
        omega
    constructor
    · exact fun hh j hj => (key j hj).1 (hh j hj)
    · exact fun hh j hj => (key j hj).2 (hh j hj)
  refine ⟨⟨(h2 0 (by omega) (by omega) (by omega)).trans a1, ?_, (h2 2 (by omega) (by omega) (by omega)).trans a3⟩, fun p hp => (h2 _ (by omega) (by omega) (by omega)).trans (a4 p hp), fun i hi => ?_, fun i k hi hk => ?_, fun k hk => (congrArg (I' 100) (by omega)).trans (hcm k hk), fun i hi => ?_⟩
  · show I' 100 1 = (((if ∀ j, j < pe → ¬ cm_u S.2.2.2.2.1 (pe * (S.1.2.1 - 1) + x) e (pe * (S.1.2.1 - 1) + j) = -1 then S.1.2.1 + 1 else S.1.2.1) : Nat) : Int)
    rcases h1 with ⟨g1, g2⟩ | ⟨g1, g2⟩
    · rw [if_pos (hall.1 g1), g2]
      omega
    · rw [if_neg (fun z => g1 (hall.2 z)), g2]
  · have hi : i < S.1.1 := hi
    have z := a5 i hi
    exact ⟨(h2 _ (by omega) (by omega) (by omega)).trans z.1, (h2 _ (by omega) (by omega) (by omega)).trans z.2.1, (h2 _ (by omega) (by omega) (by omega)).trans z.2.2⟩
  · have hi : i < S.1.1 := hi
    have z := a6 i k hi hk
    rw [show 60 + 12 * 0 + i = 60 + i by omega] at z ⊢
    exact (l i k hi hk).trans z
  · have hi : i < S.1.2.2 := hi
    have z := a8 i hi
    exact ⟨(h2 _ (by omega) (by omega) (by omega)).trans z.1, (h2 _ (by omega) (by omega) (by omega)).trans z.2⟩
theorem q_isEvent {d : Nat} {I L : Nat → Nat → Int} {R : Nat → Nat → Option Nat} {Y : (Nat → Nat) × (Nat → Nat) × Nat} (hS : ym_S (R, Y)) {x ev : Int} (hev : I 88 2 = ev) : yi_P zi_Ms d 51 [.inr (.inr (some 82)), .inl x] (I, L, R, Y) (fun r => ((0 ≤ x ∧ x < ev) ∧ r = (some (.inl 1), (I, L, R, Y), 0, 0)) ∨ (¬ (0 ≤ x ∧ x < ev) ∧ r = (some (.inl 0), (I, L, R, Y), 0, 0))) := by
  refine yi_P_of (M := zi_m51) rfl (fun d k => ?_)
  show yi_D zi_Ms d zi_m51 k (0, [(0, .inr (.inr (some 82))), (1, .inl x)], [], (I, L, R, Y), 0, 0) _
  refine yi_D_run 1 (1, [(0, .inr (.inr (some 82))), (1, .inl x)], [.inl x], (I, L, R, Y), 0, 0) (fun _ => rfl) ?_
  by_cases h1 : x < 0
  · refine yi_D_if1 true rfl (yi_lt_t h1) ?_
    refine yi_D_run 1 (17, [(0, .inr (.inr (some 82))), (1, .inl x)], [.inl 0], (I, L, R, Y), 0, 0) (fun _ => rfl) ?_
    refine yi_D_reti rfl ?_
    exact Or.inr ⟨by omega, rfl⟩
  · refine yi_D_if1 false rfl (yi_lt_f h1) ?_
    refine yi_D_run 2 (6, [(0, .inr (.inr (some 82))), (1, .inl x)], [.inr (.inr (some 82)), .inl x], (I, L, R, Y), 0, 0) (fun _ => rfl) ?_
    refine yi_D_callv rfl (q_events hS hev) ?_
    rintro _ rfl
    show yi_D zi_Ms d zi_m51 k (9, [(0, .inr (.inr (some 82))), (1, .inl x)], [.inl ev, .inl x], (I, L, R, Y), 0, 0) _
    by_cases h2 : ev ≤ x
    · refine yi_D_if2 true rfl (yi_ge_t h2) ?_
      refine yi_D_run 1 (17, [(0, .inr (.inr (some 82))), (1, .inl x)], [.inl 0], (I, L, R, Y), 0, 0) (fun _ => rfl) ?_
      refine yi_D_reti rfl ?_
      exact Or.inr ⟨by omega, rfl⟩
    · refine yi_D_if2 false rfl (yi_ge_f h2) ?_
      refine yi_D_run 2 (17, [(0, .inr (.inr (some 82))), (1, .inl x)], [.inl 1], (I, L, R, Y), 0, 0) (fun _ => rfl) ?_
      refine yi_D_reti rfl ?_
      exact Or.inl ⟨by omega, rfl⟩
theorem q_wordAt {d : Nat} {I L : Nat → Nat → Int} {R : Nat → Nat → Option Nat} {Y : (Nat → Nat) × (Nat → Nat) × Nat} (hS : ym_S (R, Y)) {x z : Int} {t pe ev : Nat} (hpe : I 88 1 = (pe : Int)) (hev : I 88 2 = (ev : Int)) (ht : 1 ≤ t ∧ t ≤ 6) (hx : 0 ≤ x ∧ x < pe) (hz : 0 ≤ z ∧ z < ev) (hb : pe ≤ 4 ∧ ev ≤ 4) : yi_P zi_Ms d 133 [.inr (.inr (some 82)), .inl x, .inl (t : Int), .inl z] (I, L, R, Y) (fun r => r = (some (.inl ((ev * (pe * (t - 1) + x.toNat) + z.toNat : Nat) : Int)), (I, L, R, Y), 0, 0)) := by
  refine yi_P_of (M := zi_m133) rfl (fun d k => ?_)
  have hm24 : pe * (t - 1) ≤ 4 * 5 := Nat.mul_le_mul hb.1 (show t - 1 ≤ 5 by omega)
  have hm96 : ev * (pe * (t - 1) + x.toNat) ≤ 4 * 24 := Nat.mul_le_mul hb.2 (by omega)
  show yi_D zi_Ms d zi_m133 k (0, [(0, .inr (.inr (some 82))), (1, .inl x), (2, .inl (t : Int)), (3, .inl z)], [], (I, L, R, Y), 0, 0) _
  refine yi_D_run 1 (1, [(0, .inr (.inr (some 82))), (1, .inl x), (2, .inl (t : Int)), (3, .inl z)], [.inr (.inr (some 82))], (I, L, R, Y), 0, 0) (fun _ => rfl) ?_
  refine yi_D_callv rfl (q_events hS hev) ?_
  rintro _ rfl
  show yi_D zi_Ms d zi_m133 k (4, [(0, .inr (.inr (some 82))), (1, .inl x), (2, .inl (t : Int)), (3, .inl z)], [.inl (ev : Int)], (I, L, R, Y), 0, 0) _
  refine yi_D_run 1 (5, [(0, .inr (.inr (some 82))), (1, .inl x), (2, .inl (t : Int)), (3, .inl z)], [.inr (.inr (some 82)), .inl (ev : Int)], (I, L, R, Y), 0, 0) (fun _ => rfl) ?_
  refine yi_D_callv rfl (q_people hS hpe) ?_
  rintro _ rfl
  show yi_D zi_Ms d zi_m133 k (8, [(0, .inr (.inr (some 82))), (1, .inl x), (2, .inl (t : Int)), (3, .inl z)], [.inl (pe : Int), .inl (ev : Int)], (I, L, R, Y), 0, 0) _
  refine yi_D_run 2 (10, [(0, .inr (.inr (some 82))), (1, .inl x), (2, .inl (t : Int)), (3, .inl z)], [.inl 1, .inl (t : Int), .inl (pe : Int), .inl (ev : Int)], (I, L, R, Y), 0, 0) (fun _ => rfl) ?_
  refine yi_D_isub rfl ((t : Int) - 1) (yi_wn (by omega) (by omega)) ?_
  refine yi_D_imul rfl (((pe * (t - 1) : Nat) : Int)) (by rw [show (pe : Int) * ((t : Int) - 1) = ((pe * (t - 1) : Nat) : Int) by rw [Int.natCast_mul, show ((t - 1 : Nat) : Int) = (t : Int) - 1 by omega]]; exact yi_wn (by omega) (by omega)) ?_
  refine yi_D_run 1 (13, [(0, .inr (.inr (some 82))), (1, .inl x), (2, .inl (t : Int)), (3, .inl z)], [.inl x, .inl ((pe * (t - 1) : Nat) : Int), .inl (ev : Int)], (I, L, R, Y), 0, 0) (fun _ => rfl) ?_
  refine yi_D_iadd rfl (((pe * (t - 1) : Nat) : Int) + x) (yi_wn (by omega) (by omega)) ?_
  refine yi_D_imul rfl (((ev * (pe * (t - 1) + x.toNat) : Nat) : Int)) (by rw [show (ev : Int) * (((pe * (t - 1) : Nat) : Int) + x) = ((ev * (pe * (t - 1) + x.toNat) : Nat) : Int) by rw [Int.natCast_mul ev (pe * (t - 1) + x.toNat), show ((pe * (t - 1) + x.toNat : Nat) : Int) = ((pe * (t - 1) : Nat) : Int) + x by omega]]; exact yi_wn (by omega) (by omega)) ?_
  refine yi_D_run 1 (16, [(0, .inr (.inr (some 82))), (1, .inl x), (2, .inl (t : Int)), (3, .inl z)], [.inl z, .inl ((ev * (pe * (t - 1) + x.toNat) : Nat) : Int)], (I, L, R, Y), 0, 0) (fun _ => rfl) ?_
  refine yi_D_iadd rfl (((ev * (pe * (t - 1) + x.toNat) : Nat) : Int) + z) (yi_wn (by omega) (by omega)) ?_
  refine yi_D_reti rfl ?_
  exact congrArg (fun z => (some (Sum.inl z), (I, L, R, Y), 0, 0)) (by omega)
theorem q_come {d : Nat} {I L : Nat → Nat → Int} {R : Nat → Nat → Option Nat} {Y : (Nat → Nat) × (Nat → Nat) × Nat} (hS : ym_S (R, Y)) {n P pr u : Nat} {S : ss_T} {U : Nat → ss_T} (h25 : I 82 25 = (n : Int)) (hn5 : n ≤ 512) (hP24 : P ≤ 24) (hpr : pr ≤ 5) (h30 : I 82 30 = (u : Int)) (hu : u ≤ 16) (hB0 : sm_B I L n P pr 0 S) (hoS : S.1.1 ≤ 12 ∧ S.1.2.2 ≤ 20) (hBu : ∀ j, j < u → sm_B I L n P pr (5 + j) (U j)) (hok0 : ∀ j, j < u → (U j).1.1 ≤ 12 ∧ (U j).1.2.2 ≤ 20) {da pe ev : Nat} {A : Nat → Int} {W : Nat → Nat → Int} {x y : Int} (hda : I 88 0 = (da : Int)) (hpe : I 88 1 = (pe : Int)) (hev : I 88 2 = (ev : Int)) (hP : P = da * pe) (bld : da ≤ 6 ∧ pe ≤ 4 ∧ ev ≤ 4) (b32 : ev * P ≤ 32) (hLA : ∀ k, k < n → L 97 (512 * 32 + k) = A k) (hLW : ∀ i k, i < ev * P → k < n → L 97 (512 * i + k) = W i k) (hok : ss_ok da P ev pr S) : yi_P zi_Ms d 12 [.inr (.inr (some 82)), .inl x, .inl y] (I, L, R, Y) (fun r => (¬ (((0 ≤ x ∧ x < pe) ∧ (1 ≤ (S.1.2.1 : Int) ∧ (S.1.2.1 : Int) ≤ da) ∧ 0 ≤ y ∧ y < ev) ∧ S.2.2.2.2.1 (pe * (S.1.2.1 - 1) + x.toNat) = -1 ∧ rw_any (lf (gd A W ev S.2.2.2.2.1 P) S.2.2.1 S.1.1) (W (ev * (pe * (S.1.2.1 - 1) + x.toNat) + y.toNat)) n) ∧ ∃ I' L', r = (some (.inl 0), (I', L', R, Y), 0, 0) ∧ (∀ p i, ¬ (p = 82 ∧ i = 0) → I' p i = I p i) ∧ (∀ p i, ¬ (p = 97 ∧ 512 * 39 ≤ i ∧ i < 512 * 40) → L' p i = L p i)) ∨ ((((0 ≤ x ∧ x < pe) ∧ (1 ≤ (S.1.2.1 : Int) ∧ (S.1.2.1 : Int) ≤ da) ∧ 0 ≤ y ∧ y < ev) ∧ S.2.2.2.2.1 (pe * (S.1.2.1 - 1) + x.toNat) = -1 ∧ rw_any (lf (gd A W ev S.2.2.2.2.1 P) S.2.2.1 S.1.1) (W (ev * (pe * (S.1.2.1 - 1) + x.toNat) + y.toNat)) n) ∧ ∃ I' L', r = (some (.inl 1), (I', L', R, Y), 0, 0) ∧ q_S I L I' L' n P pr (ss_ca S pe x.toNat y) (us_n u) (us_p u U S))) := by
  refine yi_P_of (M := zi_m12) rfl (fun d k => ?_)
  have hm24 : pe * (S.1.2.1 - 1) ≤ 4 * 6 := Nat.mul_le_mul bld.2.1 (show S.1.2.1 - 1 ≤ 6 by have := hok.2.1; omega)
  have htb := hok.2.1
  show yi_D zi_Ms d zi_m12 k (0, [(0, .inr (.inr (some 82))), (1, .inl x), (2, .inl y)], [], (I, L, R, Y), 0, 0) _
  refine yi_D_run 2 (2, [(0, .inr (.inr (some 82))), (1, .inl x), (2, .inl y)], [.inl 0, .inr (.inr (some 82))], (I, L, R, Y), 0, 0) (fun _ => rfl) ?_
  refine yi_D_pi rfl (fun _ => ?_)
  generalize w2 : yi_u I 82 0 0 = I1
  refine yi_D_run 1 (6, [(0, .inr (.inr (some 82))), (1, .inl x), (2, .inl y)], [.inr (.inr (some 82))], (I1, L, R, Y), 0, 0) (fun _ => rfl) ?_
  refine yi_D_gr (v := some 100) rfl rfl rfl (ym_S_at hS (j := 17) rfl).1 (fun _ => ?_)
  refine yi_D_run 1 (10, [(0, .inr (.inr (some 82))), (1, .inl x), (2, .inl y)], [.inl 1, .inr (.inr (some 100))], (I1, L, R, Y), 0, 0) (fun _ => rfl) ?_
  have htd : I1 100 1 = (S.1.2.1 : Int) := by rw [← w2, yi_u_ne _ _ (by omega)]; exact hB0.1.2.1
  refine yi_D_il (v := (S.1.2.1 : Int)) rfl rfl htd (fun _ _ => ?_)
  refine yi_D_run 3 (14, [(3, .inl (S.1.2.1 : Int)), (0, .inr (.inr (some 82))), (1, .inl x), (2, .inl y)], [.inl x, .inr (.inr (some 82))], (I1, L, R, Y), 0, 0) (fun _ => rfl) ?_
  refine yi_D_callv rfl (q_isPerson3 hS (n1 := (pe : Int)) (by rw [← w2, yi_u_ne _ _ (by omega)]; exact hpe)) ?_
  rintro _ (⟨hb3, rfl⟩ | ⟨hb4, rfl⟩)
  · show yi_D zi_Ms d zi_m12 k (17, [(3, .inl (S.1.2.1 : Int)), (0, .inr (.inr (some 82))), (1, .inl x), (2, .inl y)], [.inl 1], (I1, L, R, Y), 0, 0) _
    refine yi_D_if1 false rfl (by decide) ?_
    refine yi_D_run 2 (22, [(3, .inl (S.1.2.1 : Int)), (0, .inr (.inr (some 82))), (1, .inl x), (2, .inl y)], [.inl y, .inr (.inr (some 82))], (I1, L, R, Y), 0, 0) (fun _ => rfl) ?_
    refine yi_D_callv rfl (q_isEvent hS (ev := (ev : Int)) (by rw [← w2, yi_u_ne _ _ (by omega)]; exact hev)) ?_
    rintro _ (⟨hb5, rfl⟩ | ⟨hb6, rfl⟩)
    · show yi_D zi_Ms d zi_m12 k (25, [(3, .inl (S.1.2.1 : Int)), (0, .inr (.inr (some 82))), (1, .inl x), (2, .inl y)], [.inl 1], (I1, L, R, Y), 0, 0) _
      refine yi_D_if1 false rfl (by decide) ?_
      refine yi_D_run 2 (30, [(3, .inl (S.1.2.1 : Int)), (0, .inr (.inr (some 82))), (1, .inl x), (2, .inl y)], [.inr (.inr (some 82)), .inl (S.1.2.1 : Int)], (I1, L, R, Y), 0, 0) (fun _ => rfl) ?_
      refine yi_D_callv rfl (q_days hS (show I1 88 0 = (da : Int) by rw [← w2, yi_u_ne _ _ (by omega)]; exact hda)) ?_
      rintro _ rfl
      show yi_D zi_Ms d zi_m12 k (33, [(3, .inl (S.1.2.1 : Int)), (0, .inr (.inr (some 82))), (1, .inl x), (2, .inl y)], [.inl (da : Int), .inl (S.1.2.1 : Int)], (I1, L, R, Y), 0, 0) _
      by_cases h7 : (da : Int) < (S.1.2.1 : Int)
      · refine yi_D_if2 true rfl (yi_gt_t h7) ?_
        refine yi_D_run 1 (58, [(3, .inl (S.1.2.1 : Int)), (0, .inr (.inr (some 82))), (1, .inl x), (2, .inl y)], [.inl 0], (I1, L, R, Y), 0, 0) (fun _ => rfl) ?_
        refine yi_D_reti rfl ?_
        refine Or.inl ⟨?_, _, _, rfl, fun p i h => by rw [← w2, yi_u_ne _ _ h], fun _ _ _ => rfl⟩
        rintro ⟨h1, h2, h3⟩
        omega
      · refine yi_D_if2 false rfl (yi_gt_f h7) ?_
        refine yi_D_run 1 (37, [(3, .inl (S.1.2.1 : Int)), (0, .inr (.inr (some 82))), (1, .inl x), (2, .inl y)], [.inr (.inr (some 82))], (I1, L, R, Y), 0, 0) (fun _ => rfl) ?_
        refine yi_D_gr (v := some 100) rfl rfl rfl (ym_S_at hS (j := 17) rfl).1 (fun _ => ?_)
        refine yi_D_run 2 (43, [(3, .inl (S.1.2.1 : Int)), (0, .inr (.inr (some 82))), (1, .inl x), (2, .inl y)], [.inr (.inr (some 82)), .inl 44, .inr (.inr (some 100))], (I1, L, R, Y), 0, 0) (fun _ => rfl) ?_
        refine yi_D_callv rfl (q_people hS (show I1 88 1 = (pe : Int) by rw [← w2, yi_u_ne _ _ (by omega)]; exact hpe)) ?_
        rintro _ rfl
        show yi_D zi_Ms d zi_m12 k (46, [(3, .inl (S.1.2.1 : Int)), (0, .inr (.inr (some 82))), (1, .inl x), (2, .inl y)], [.inl (pe : Int), .inl 44, .inr (.inr (some 100))], (I1, L, R, Y), 0, 0) _
        refine yi_D_run 2 (48, [(3, .inl (S.1.2.1 : Int)), (0, .inr (.inr (some 82))), (1, .inl x), (2, .inl y)], [.inl 1, .inl (S.1.2.1 : Int), .inl (pe : Int), .inl 44, .inr (.inr (some 100))], (I1, L, R, Y), 0, 0) (fun _ => rfl) ?_
        refine yi_D_isub rfl ((S.1.2.1 : Int) - 1) (yi_wn (by omega) (by omega)) ?_
        refine yi_D_imul rfl (((pe * (S.1.2.1 - 1) : Nat) : Int)) (by rw [show (pe : Int) * ((S.1.2.1 : Int) - 1) = ((pe * (S.1.2.1 - 1) : Nat) : Int) by rw [Int.natCast_mul, show ((S.1.2.1 - 1 : Nat) : Int) = (S.1.2.1 : Int) - 1 by omega]]; exact yi_wn (by omega) (by omega)) ?_
        refine yi_D_iadd rfl (44 + ((pe * (S.1.2.1 - 1) : Nat) : Int)) (yi_wn (by omega) (by omega)) ?_
        refine yi_D_run 1 (52, [(3, .inl (S.1.2.1 : Int)), (0, .inr (.inr (some 82))), (1, .inl x), (2, .inl y)], [.inl x, .inl (44 + ((pe * (S.1.2.1 - 1) : Nat) : Int)), .inr (.inr (some 100))], (I1, L, R, Y), 0, 0) (fun _ => rfl) ?_
        refine yi_D_iadd rfl ((44 + ((pe * (S.1.2.1 - 1) : Nat) : Int)) + x) (yi_wn (by omega) (by omega)) ?_
        have hkx := kx_lt (show S.1.2.1 - 1 < da by omega) (show x.toNat < pe by omega)
        rw [← hP] at hkx
        have hcx : I1 100 (((44 + ((pe * (S.1.2.1 - 1) : Nat) : Int)) + x).toNat) = S.2.2.2.2.1 (pe * (S.1.2.1 - 1) + x.toNat) := by rw [← w2, yi_u_ne _ _ (by omega), show ((44 + ((pe * (S.1.2.1 - 1) : Nat) : Int)) + x).toNat = 110 * 0 + 44 + (pe * (S.1.2.1 - 1) + x.toNat) by omega]; exact hB0.2.2.2.2.1 _ hkx
        have hcxb := hok.2.2.2.1 _ hkx
        refine yi_D_il (v := S.2.2.2.2.1 (pe * (S.1.2.1 - 1) + x.toNat)) rfl rfl hcx (fun _ _ => ?_)
        by_cases h8 : (S.2.2.2.2.1 (pe * (S.1.2.1 - 1) + x.toNat)) < 0
        · refine yi_D_if1 true rfl (yi_lt_t h8) ?_
          refine yi_D_run 1 (60, [(3, .inl (S.1.2.1 : Int)), (0, .inr (.inr (some 82))), (1, .inl x), (2, .inl y)], [.inr (.inr (some 82))], (I1, L, R, Y), 0, 0) (fun _ => rfl) ?_
          have f1 : ∀ p i, ¬ (p = 82 ∧ i = 0) → I1 p i = I p i := fun p i h => by rw [← w2, yi_u_ne _ _ h]
          have t25 := (f1 82 25 (by omega)).trans h25
          have tda := (f1 88 0 (by omega)).trans hda
          have tpe := (f1 88 1 (by omega)).trans hpe
          have tev := (f1 88 2 (by omega)).trans hev
          have t0 := (f1 100 0 (by omega)).trans hB0.1.1
          have tcm : ∀ k, k < P → I1 100 (44 + k) = S.2.2.2.2.1 k := fun k hk => (f1 100 _ (by omega)).trans ((congrArg (I 100) (by omega)).trans (hB0.2.2.2.2.1 k hk))
          have tLr : ∀ i k, i < S.1.1 → k < n → L 97 (512 * (60 + i) + k) = S.2.2.1 i k := fun i k hi hk => (congrArg (L 97) (by omega)).trans (hB0.2.2.2.1 i k hi hk)
          refine yi_D_callv rfl (q_findLeft hS t25 hn5 tda tpe tev hP bld b32 tcm hok.2.2.2.1 t0 hok.1 hLA hLW tLr) ?_
          rintro _ ⟨L9, rfl, g110, g211⟩
          show yi_D zi_Ms d zi_m12 k (63, [(3, .inl (S.1.2.1 : Int)), (0, .inr (.inr (some 82))), (1, .inl x), (2, .inl y)], [.inl (ym_ct (lf (gd A W ev S.2.2.2.2.1 P) S.2.2.1 S.1.1) n)], (I1, L9, R, Y), 0, 0) _
          refine yi_D_run 7 (71, [(3, .inl (S.1.2.1 : Int)), (0, .inr (.inr (some 82))), (1, .inl x), (2, .inl y)], [.inl y, .inl (S.1.2.1 : Int), .inl x, .inr (.inr (some 82)), .inl 39, .inr (.inr (some 82))], (I1, L9, R, Y), 0, 0) (fun _ => rfl) ?_
          refine yi_D_callv rfl (q_wordAt hS tpe tev (by omega) (by omega) (by omega) (by omega)) ?_
          rintro _ rfl
          show yi_D zi_Ms d zi_m12 k (74, [(3, .inl (S.1.2.1 : Int)), (0, .inr (.inr (some 82))), (1, .inl x), (2, .inl y)], [.inl ((ev * (pe * (S.1.2.1 - 1) + x.toNat) + y.toNat : Nat) : Int), .inl 39, .inr (.inr (some 82))], (I1, L9, R, Y), 0, 0) _
          have hwx := wx_lt (ev := ev) (P := P) (k := pe * (S.1.2.1 - 1) + x.toNat) (e := y.toNat) hkx (by omega)
          refine yi_D_callv rfl (q_isAny (a := 39) (b := ev * (pe * (S.1.2.1 - 1) + x.toNat) + y.toNat) (f := lf (gd A W ev S.2.2.2.2.1 P) S.2.2.1 S.1.1) (g := W (ev * (pe * (S.1.2.1 - 1) + x.toNat) + y.toNat)) hS rfl rfl (by omega) (by omega) t25 hn5 g110 (fun k hk => by rw [g211 97 _ (by omega)]; exact hLW _ k hwx hk)) ?_
          rintro _ (⟨hb12, rfl⟩ | ⟨hb13, rfl⟩)
          · show yi_D zi_Ms d zi_m12 k (77, [(3, .inl (S.1.2.1 : Int)), (0, .inr (.inr (some 82))), (1, .inl x), (2, .inl y)], [.inl 1], (I1, L9, R, Y), 0, 0) _
            refine yi_D_if1 true rfl (by decide) ?_
            refine yi_D_run 1 (83, [(3, .inl (S.1.2.1 : Int)), (0, .inr (.inr (some 82))), (1, .inl x), (2, .inl y)], [.inr (.inr (some 82))], (I1, L9, R, Y), 0, 0) (fun _ => rfl) ?_
            have t30 := (f1 82 30 (by omega)).trans h30
            have tB0 : sm_B I1 L9 n P pr 0 S := sm_B_c hB0 ⟨hP24, hpr, hoS.1, hoS.2, hn5⟩ (fun k hk => f1 100 _ (by omega)) (fun i k hi hk => g211 97 _ (by omega))
            have tBu : ∀ j, j < u → sm_B I1 L9 n P pr (5 + j) (U j) := fun j hj => sm_B_c (hBu j hj) ⟨hP24, hpr, (hok0 j hj).1, (hok0 j hj).2, hn5⟩ (fun k hk => f1 100 _ (by omega)) (fun i k hi hk => g211 97 _ (by have := (hok0 j hj).1; omega))
            refine yi_D_callv rfl (q_keeps hS t25 hn5 hP24 hpr t30 hu tB0 hoS tBu hok0) ?_
            rintro _ ⟨I14, L15, rfl, e116, e217, e318, e419⟩
            have k3 : ∀ p i, ¬ (p = 100 ∧ 550 ≤ i) ∧ ¬ (p = 82 ∧ (i = 0 ∨ i = 30)) → I14 p i = I p i := fun p i h => by rw [e318 p i (by omega)]; exact f1 p i (by omega)
            have k4 : ∀ p i, ¬ (p = 97 ∧ ((512 * 39 ≤ i ∧ i < 512 * 40) ∨ 512 * 120 ≤ i)) → L15 p i = L p i := fun p i h => by rw [e419 p i (by omega)]; exact g211 p i (by omega)
            have kda := (k3 88 0 (by omega)).trans hda
            have kpe := (k3 88 1 (by omega)).trans hpe
            show yi_D zi_Ms d zi_m12 k (86, [(3, .inl (S.1.2.1 : Int)), (0, .inr (.inr (some 82))), (1, .inl x), (2, .inl y)], [], (I14, L15, R, Y), 0, 0) _
            refine yi_D_run 1 (87, [(3, .inl (S.1.2.1 : Int)), (0, .inr (.inr (some 82))), (1, .inl x), (2, .inl y)], [.inr (.inr (some 82))], (I14, L15, R, Y), 0, 0) (fun _ => rfl) ?_
            refine yi_D_gr (v := some 100) rfl rfl rfl (ym_S_at hS (j := 17) rfl).1 (fun _ => ?_)
            refine yi_D_run 2 (93, [(3, .inl (S.1.2.1 : Int)), (0, .inr (.inr (some 82))), (1, .inl x), (2, .inl y)], [.inr (.inr (some 82)), .inl 44, .inr (.inr (some 100))], (I14, L15, R, Y), 0, 0) (fun _ => rfl) ?_
            refine yi_D_callv rfl (q_people hS (kpe)) ?_
            rintro _ rfl
            show yi_D zi_Ms d zi_m12 k (96, [(3, .inl (S.1.2.1 : Int)), (0, .inr (.inr (some 82))), (1, .inl x), (2, .inl y)], [.inl (pe : Int), .inl 44, .inr (.inr (some 100))], (I14, L15, R, Y), 0, 0) _
            refine yi_D_run 2 (98, [(3, .inl (S.1.2.1 : Int)), (0, .inr (.inr (some 82))), (1, .inl x), (2, .inl y)], [.inl 1, .inl (S.1.2.1 : Int), .inl (pe : Int), .inl 44, .inr (.inr (some 100))], (I14, L15, R, Y), 0, 0) (fun _ => rfl) ?_
            refine yi_D_isub rfl ((S.1.2.1 : Int) - 1) (yi_wn (by omega) (by omega)) ?_
            refine yi_D_imul rfl (((pe * (S.1.2.1 - 1) : Nat) : Int)) (by rw [show (pe : Int) * ((S.1.2.1 : Int) - 1) = ((pe * (S.1.2.1 - 1) : Nat) : Int) by rw [Int.natCast_mul, show ((S.1.2.1 - 1 : Nat) : Int) = (S.1.2.1 : Int) - 1 by omega]]; exact yi_wn (by omega) (by omega)) ?_
            refine yi_D_iadd rfl (44 + ((pe * (S.1.2.1 - 1) : Nat) : Int)) (yi_wn (by omega) (by omega)) ?_
            refine yi_D_run 1 (102, [(3, .inl (S.1.2.1 : Int)), (0, .inr (.inr (some 82))), (1, .inl x), (2, .inl y)], [.inl x, .inl (44 + ((pe * (S.1.2.1 - 1) : Nat) : Int)), .inr (.inr (some 100))], (I14, L15, R, Y), 0, 0) (fun _ => rfl) ?_
            refine yi_D_iadd rfl ((44 + ((pe * (S.1.2.1 - 1) : Nat) : Int)) + x) (yi_wn (by omega) (by omega)) ?_
            refine yi_D_run 1 (104, [(3, .inl (S.1.2.1 : Int)), (0, .inr (.inr (some 82))), (1, .inl x), (2, .inl y)], [.inl y, .inl ((44 + ((pe * (S.1.2.1 - 1) : Nat) : Int)) + x), .inr (.inr (some 100))], (I14, L15, R, Y), 0, 0) (fun _ => rfl) ?_
            refine yi_D_is rfl (fun _ _ => ?_)
            generalize w21 : yi_u I14 100 (((44 + ((pe * (S.1.2.1 - 1) : Nat) : Int)) + x).toNat) y = I20
            refine yi_D_run 4 (111, [(5, .inl 0), (4, .inl 1), (3, .inl (S.1.2.1 : Int)), (0, .inr (.inr (some 82))), (1, .inl x), (2, .inl y)], [], (I20, L15, R, Y), 0, 0) (fun _ => rfl) ?_
            have pt111 : ∀ j111, j111 ≤ k → ∀ (y5 : Int) (y4 : Int), (0 ≤ y5 ∧ y5 ≤ (pe : Int)) → ((y4 = 1 ∧ (∀ j : Nat, (j : Int) < y5 → 0 ≤ I20 100 (44 + (pe * (S.1.2.1 - 1) + j)))) ∨ (y4 = 0 ∧ ¬ (∀ j : Nat, (j : Int) < y5 → 0 ≤ I20 100 (44 + (pe * (S.1.2.1 - 1) + j))))) → yi_D zi_Ms d zi_m12 j111 (111, [(5, .inl y5), (4, .inl y4), (3, .inl (S.1.2.1 : Int)), (0, .inr (.inr (some 82))), (1, .inl x), (2, .inl y)], [], (I20, L15, R, Y), 0, 0) (fun r => (¬ (((0 ≤ x ∧ x < pe) ∧ (1 ≤ (S.1.2.1 : Int) ∧ (S.1.2.1 : Int) ≤ da) ∧ 0 ≤ y ∧ y < ev) ∧ S.2.2.2.2.1 (pe * (S.1.2.1 - 1) + x.toNat) = -1 ∧ rw_any (lf (gd A W ev S.2.2.2.2.1 P) S.2.2.1 S.1.1) (W (ev * (pe * (S.1.2.1 - 1) + x.toNat) + y.toNat)) n) ∧ ∃ I' L', r = (some (.inl 0), (I', L', R, Y), 0, 0) ∧ (∀ p i, ¬ (p = 82 ∧ i = 0) → I' p i = I p i) ∧ (∀ p i, ¬ (p = 97 ∧ 512 * 39 ≤ i ∧ i < 512 * 40) → L' p i = L p i)) ∨ ((((0 ≤ x ∧ x < pe) ∧ (1 ≤ (S.1.2.1 : Int) ∧ (S.1.2.1 : Int) ≤ da) ∧ 0 ≤ y ∧ y < ev) ∧ S.2.2.2.2.1 (pe * (S.1.2.1 - 1) + x.toNat) = -1 ∧ rw_any (lf (gd A W ev S.2.2.2.2.1 P) S.2.2.1 S.1.1) (W (ev * (pe * (S.1.2.1 - 1) + x.toNat) + y.toNat)) n) ∧ ∃ I' L', r = (some (.inl 1), (I', L', R, Y), 0, 0) ∧ q_S I L I' L' n P pr (ss_ca S pe x.toNat y) (us_n u) (us_p u U S))) := by
              intro j111
              induction j111 with
              | zero => intros; exact yi_D_0
              | succ j111 ih111 =>
              intro hk111 y5 y4 hy5 hz
              refine yi_D_run1 1 (114, [(5, .inl y5), (4, .inl y4), (3, .inl (S.1.2.1 : Int)), (0, .inr (.inr (some 82))), (1, .inl x), (2, .inl y)], [.inr (.inr (some 82)), .inl y5], (I20, L15, R, Y), 0, 0) (fun _ => rfl) ?_
              refine yi_D_callv rfl (q_people hS (show I20 88 1 = (pe : Int) by rw [← w21, yi_u_ne _ _ (by omega)]; exact kpe)) ?_
              rintro _ rfl
              show yi_D zi_Ms d zi_m12 j111 (117, [(5, .inl y5), (4, .inl y4), (3, .inl (S.1.2.1 : Int)), (0, .inr (.inr (some 82))), (1, .inl x), (2, .inl y)], [.inl (pe : Int), .inl y5], (I20, L15, R, Y), 0, 0) _
              by_cases h22 : (pe : Int) ≤ y5
              · refine yi_D_if2 true rfl (yi_ge_t h22) ?_
                refine yi_D_run 1 (161, [(5, .inl y5), (4, .inl y4), (3, .inl (S.1.2.1 : Int)), (0, .inr (.inr (some 82))), (1, .inl x), (2, .inl y)], [.inr (.inr (some 82))], (I20, L15, R, Y), 0, 0) (fun _ => rfl) ?_
                refine yi_D_gr (v := some 100) rfl rfl rfl (ym_S_at hS (j := 17) rfl).1 (fun _ => ?_)
                refine yi_D_run 2 (166, [(5, .inl y5), (4, .inl y4), (3, .inl (S.1.2.1 : Int)), (0, .inr (.inr (some 82))), (1, .inl x), (2, .inl y)], [.inl 1, .inr (.inr (some 100)), .inl 1, .inr (.inr (some 100))], (I20, L15, R, Y), 0, 0) (fun _ => rfl) ?_
                have htd2 : I20 100 1 = (S.1.2.1 : Int) := by rw [← w21, yi_u_ne _ _ (by omega), k3 100 1 (by omega)]; exact hB0.1.2.1
                refine yi_D_il (v := (S.1.2.1 : Int)) rfl rfl htd2 (fun _ _ => ?_)
                refine yi_D_run 1 (169, [(5, .inl y5), (4, .inl y4), (3, .inl (S.1.2.1 : Int)), (0, .inr (.inr (some 82))), (1, .inl x), (2, .inl y)], [.inl y4, .inl (S.1.2.1 : Int), .inl 1, .inr (.inr (some 100))], (I20, L15, R, Y), 0, 0) (fun _ => rfl) ?_
                by_cases h23 : y4 = 0
                · refine yi_D_if1 true rfl (yi_eq_t h23) ?_
                  refine yi_D_run 1 (177, [(5, .inl y5), (4, .inl y4), (3, .inl (S.1.2.1 : Int)), (0, .inr (.inr (some 82))), (1, .inl x), (2, .inl y)], [.inl 0, .inl (S.1.2.1 : Int), .inl 1, .inr (.inr (some 100))], (I20, L15, R, Y), 0, 0) (fun _ => rfl) ?_
                  skip
                  refine yi_D_iadd rfl ((S.1.2.1 : Int) + 0) (yi_wn (by omega) (by omega)) ?_
                  refine yi_D_is rfl (fun _ _ => ?_)
                  show yi_D zi_Ms d zi_m12 j111 (179, [(5, .inl y5), (4, .inl y4), (3, .inl (S.1.2.1 : Int)), (0, .inr (.inr (some 82))), (1, .inl x), (2, .inl y)], [], ((yi_u I20 100 1 ((S.1.2.1 : Int) + 0)), L15, R, Y), 0, 0) _
                  generalize w25 : yi_u I20 100 1 ((S.1.2.1 : Int) + 0) = I24
                  refine yi_D_run 1 (180, [(5, .inl y5), (4, .inl y4), (3, .inl (S.1.2.1 : Int)), (0, .inr (.inr (some 82))), (1, .inl x), (2, .inl y)], [.inl 1], (I24, L15, R, Y), 0, 0) (fun _ => rfl) ?_
                  refine yi_D_reti rfl ?_
                  have hJ : ∀ j : Nat, j < pe → I24 100 (44 + (pe * (S.1.2.1 - 1) + j)) = I20 100 (44 + (pe * (S.1.2.1 - 1) + j)) := fun j hj => by rw [← w25, yi_u_ne _ _ (by omega)]
                  have kB0 : sm_B I14 L15 n P pr 0 S := sm_B_c hB0 ⟨hP24, hpr, hoS.1, hoS.2, hn5⟩ (fun k hk => k3 100 _ (by omega)) (fun i k hi hk => k4 97 _ (by omega))
                  have hh1 : ((∀ j : Nat, j < pe → 0 ≤ I24 100 (44 + (pe * (S.1.2.1 - 1) + j))) ∧ I24 100 1 = (S.1.2.1 : Int) + 1) ∨ (¬ (∀ j : Nat, j < pe → 0 ≤ I24 100 (44 + (pe * (S.1.2.1 - 1) + j))) ∧ I24 100 1 = (S.1.2.1 : Int)) := by
                    rcases hz with ⟨h5, h6⟩ | ⟨h5, h6⟩
                    · exfalso; omega
                    · exact Or.inr ⟨fun h => h6 (fun j hj => by rw [← hJ j (by omega)]; exact h j (by omega)), by rw [← w25, yi_u_eq]; omega⟩
                  refine Or.inr ⟨⟨by omega, by omega, by assumption⟩, _, _, rfl, sm_B_ca kB0 hok hP ⟨bld.1, bld.2.1, hpr⟩ (by omega) (by omega) (by omega) (by rw [← w25, yi_u_ne _ _ (by omega), show 44 + (pe * (S.1.2.1 - 1) + x.toNat) = ((44 + ((pe * (S.1.2.1 - 1) : Nat) : Int)) + x).toNat by omega, ← w21, yi_u_eq]) hh1 (fun i h1 h2 h3 => by rw [← w25, yi_u_ne _ _ (by omega), ← w21, yi_u_ne _ _ (by omega)]) (fun _ _ _ _ => rfl), by rw [← w25, yi_u_ne _ _ (by omega), ← w21, yi_u_ne _ _ (by omega)]; exact e116, fun j hj => sm_B_c (e217 j hj) ⟨hP24, hpr, (us_ok hu hoS hok0 j hj).1, (us_ok hu hoS hok0 j hj).2, hn5⟩ (fun k hk => by rw [← w25, yi_u_ne _ _ (by omega), ← w21, yi_u_ne _ _ (by omega)]) (fun _ _ _ _ => rfl), fun p i h => by rw [← w25, yi_u_ne _ _ (by omega), ← w21, yi_u_ne _ _ (by omega)]; exact k3 p i (by omega), fun p i h => k4 p i (by omega)⟩
                · refine yi_D_if1 false rfl (yi_eq_f h23) ?_
                  refine yi_D_run 2 (177, [(5, .inl y5), (4, .inl y4), (3, .inl (S.1.2.1 : Int)), (0, .inr (.inr (some 82))), (1, .inl x), (2, .inl y)], [.inl 1, .inl (S.1.2.1 : Int), .inl 1, .inr (.inr (some 100))], (I20, L15, R, Y), 0, 0) (fun _ => rfl) ?_
                  skip
                  refine yi_D_iadd rfl ((S.1.2.1 : Int) + 1) (yi_wn (by omega) (by omega)) ?_
                  refine yi_D_is rfl (fun _ _ => ?_)
                  show yi_D zi_Ms d zi_m12 j111 (179, [(5, .inl y5), (4, .inl y4), (3, .inl (S.1.2.1 : Int)), (0, .inr (.inr (some 82))), (1, .inl x), (2, .inl y)], [], ((yi_u I20 100 1 ((S.1.2.1 : Int) + 1)), L15, R, Y), 0, 0) _
                  generalize w27 : yi_u I20 100 1 ((S.1.2.1 : Int) + 1) = I26
                  refine yi_D_run 1 (180, [(5, .inl y5), (4, .inl y4), (3, .inl (S.1.2.1 : Int)), (0, .inr (.inr (some 82))), (1, .inl x), (2, .inl y)], [.inl 1], (I26, L15, R, Y), 0, 0) (fun _ => rfl) ?_
                  refine yi_D_reti rfl ?_
                  have hJ : ∀ j : Nat, j < pe → I26 100 (44 + (pe * (S.1.2.1 - 1) + j)) = I20 100 (44 + (pe * (S.1.2.1 - 1) + j)) := fun j hj => by rw [← w27, yi_u_ne _ _ (by omega)]
                  have kB0 : sm_B I14 L15 n P pr 0 S := sm_B_c hB0 ⟨hP24, hpr, hoS.1, hoS.2, hn5⟩ (fun k hk => k3 100 _ (by omega)) (fun i k hi hk => k4 97 _ (by omega))
                  have hh1 : ((∀ j : Nat, j < pe → 0 ≤ I26 100 (44 + (pe * (S.1.2.1 - 1) + j))) ∧ I26 100 1 = (S.1.2.1 : Int) + 1) ∨ (¬ (∀ j : Nat, j < pe → 0 ≤ I26 100 (44 + (pe * (S.1.2.1 - 1) + j))) ∧ I26 100 1 = (S.1.2.1 : Int)) := by
                    rcases hz with ⟨h5, h6⟩ | ⟨h5, h6⟩
                    · exact Or.inl ⟨fun j hj => by rw [hJ j hj]; exact h6 j (by omega), by rw [← w27, yi_u_eq]⟩
                    · exfalso; omega
                  refine Or.inr ⟨⟨by omega, by omega, by assumption⟩, _, _, rfl, sm_B_ca kB0 hok hP ⟨bld.1, bld.2.1, hpr⟩ (by omega) (by omega) (by omega) (by rw [← w27, yi_u_ne _ _ (by omega), show 44 + (pe * (S.1.2.1 - 1) + x.toNat) = ((44 + ((pe * (S.1.2.1 - 1) : Nat) : Int)) + x).toNat by omega, ← w21, yi_u_eq]) hh1 (fun i h1 h2 h3 => by rw [← w27, yi_u_ne _ _ (by omega), ← w21, yi_u_ne _ _ (by omega)]) (fun _ _ _ _ => rfl), by rw [← w27, yi_u_ne _ _ (by omega), ← w21, yi_u_ne _ _ (by omega)]; exact e116, fun j hj => sm_B_c (e217 j hj) ⟨hP24, hpr, (us_ok hu hoS hok0 j hj).1, (us_ok hu hoS hok0 j hj).2, hn5⟩ (fun k hk => by rw [← w27, yi_u_ne _ _ (by omega), ← w21, yi_u_ne _ _ (by omega)]) (fun _ _ _ _ => rfl), fun p i h => by rw [← w27, yi_u_ne _ _ (by omega), ← w21, yi_u_ne _ _ (by omega)]; exact k3 p i (by omega), fun p i h => k4 p i (by omega)⟩
              · refine yi_D_if2 false rfl (yi_ge_f h22) ?_
                refine yi_D_run 1 (122, [(5, .inl y5), (4, .inl y4), (3, .inl (S.1.2.1 : Int)), (0, .inr (.inr (some 82))), (1, .inl x), (2, .inl y)], [.inl y4], (I20, L15, R, Y), 0, 0) (fun _ => rfl) ?_
                by_cases h28 : y4 = 0
                · refine yi_D_if1 true rfl (yi_eq_t h28) ?_
                  refine yi_D_run 2 (154, [(4, .inl 0), (5, .inl y5), (3, .inl (S.1.2.1 : Int)), (0, .inr (.inr (some 82))), (1, .inl x), (2, .inl y)], [], (I20, L15, R, Y), 0, 0) (fun _ => rfl) ?_
                  refine yi_D_iinc [(5, .inl (y5 + 1)), (4, .inl 0), (3, .inl (S.1.2.1 : Int)), (0, .inr (.inr (some 82))), (1, .inl x), (2, .inl y)] rfl rfl rfl (by rw [show yi_w (y5 + 1) = y5 + 1 from (yi_wn (by omega) (by omega)).trans (by omega)]; rfl) ?_
                  refine yi_D_run 1 (111, [(5, .inl (y5 + 1)), (4, .inl 0), (3, .inl (S.1.2.1 : Int)), (0, .inr (.inr (some 82))), (1, .inl x), (2, .inl y)], [], (I20, L15, R, Y), 0, 0) (fun _ => rfl) ?_
                  exact yi_D_mono (ih111 (by omega) (y5 + 1) 0 (by omega) (Or.inr ⟨rfl, fun h => by rcases hz with ⟨h5, h6⟩ | ⟨h5, h6⟩; omega; exact h6 (fun j hj => h j (by omega))⟩)) (by omega)
                · refine yi_D_if1 false rfl (yi_eq_f h28) ?_
                  refine yi_D_run 1 (126, [(5, .inl y5), (4, .inl y4), (3, .inl (S.1.2.1 : Int)), (0, .inr (.inr (some 82))), (1, .inl x), (2, .inl y)], [.inr (.inr (some 82))], (I20, L15, R, Y), 0, 0) (fun _ => rfl) ?_
                  refine yi_D_gr (v := some 100) rfl rfl rfl (ym_S_at hS (j := 17) rfl).1 (fun _ => ?_)
                  refine yi_D_run 2 (132, [(5, .inl y5), (4, .inl y4), (3, .inl (S.1.2.1 : Int)), (0, .inr (.inr (some 82))), (1, .inl x), (2, .inl y)], [.inr (.inr (some 82)), .inl 44, .inr (.inr (some 100))], (I20, L15, R, Y), 0, 0) (fun _ => rfl) ?_
                  refine yi_D_callv rfl (q_people hS (show I20 88 1 = (pe : Int) by rw [← w21, yi_u_ne _ _ (by omega)]; exact kpe)) ?_
                  rintro _ rfl
                  show yi_D zi_Ms d zi_m12 j111 (135, [(5, .inl y5), (4, .inl y4), (3, .inl (S.1.2.1 : Int)), (0, .inr (.inr (some 82))), (1, .inl x), (2, .inl y)], [.inl (pe : Int), .inl 44, .inr (.inr (some 100))], (I20, L15, R, Y), 0, 0) _
                  refine yi_D_run 2 (137, [(5, .inl y5), (4, .inl y4), (3, .inl (S.1.2.1 : Int)), (0, .inr (.inr (some 82))), (1, .inl x), (2, .inl y)], [.inl 1, .inl (S.1.2.1 : Int), .inl (pe : Int), .inl 44, .inr (.inr (some 100))], (I20, L15, R, Y), 0, 0) (fun _ => rfl) ?_
                  refine yi_D_isub rfl ((S.1.2.1 : Int) - 1) (yi_wn (by omega) (by omega)) ?_
                  refine yi_D_imul rfl (((pe * (S.1.2.1 - 1) : Nat) : Int)) (by rw [show (pe : Int) * ((S.1.2.1 : Int) - 1) = ((pe * (S.1.2.1 - 1) : Nat) : Int) by rw [Int.natCast_mul, show ((S.1.2.1 - 1 : Nat) : Int) = (S.1.2.1 : Int) - 1 by omega]]; exact yi_wn (by omega) (by omega)) ?_
                  refine yi_D_iadd rfl (44 + ((pe * (S.1.2.1 - 1) : Nat) : Int)) (yi_wn (by omega) (by omega)) ?_
                  refine yi_D_run 1 (142, [(5, .inl y5), (4, .inl y4), (3, .inl (S.1.2.1 : Int)), (0, .inr (.inr (some 82))), (1, .inl x), (2, .inl y)], [.inl y5, .inl (44 + ((pe * (S.1.2.1 - 1) : Nat) : Int)), .inr (.inr (some 100))], (I20, L15, R, Y), 0, 0) (fun _ => rfl) ?_
                  refine yi_D_iadd rfl ((44 + ((pe * (S.1.2.1 - 1) : Nat) : Int)) + y5) (yi_wn (by omega) (by omega)) ?_
                  have hcj : I20 100 (((44 + ((pe * (S.1.2.1 - 1) : Nat) : Int)) + y5).toNat) = I20 100 (44 + (pe * (S.1.2.1 - 1) + y5.toNat)) := congrArg (I20 100) (by omega)
                  refine yi_D_il (v := I20 100 (((44 + ((pe * (S.1.2.1 - 1) : Nat) : Int)) + y5).toNat)) rfl rfl rfl (fun _ _ => ?_)
                  by_cases h29 : (I20 100 (((44 + ((pe * (S.1.2.1 - 1) : Nat) : Int)) + y5).toNat)) < 0
                  · refine yi_D_if1 true rfl (yi_lt_t h29) ?_
                    refine yi_D_run 2 (154, [(4, .inl 0), (5, .inl y5), (3, .inl (S.1.2.1 : Int)), (0, .inr (.inr (some 82))), (1, .inl x), (2, .inl y)], [], (I20, L15, R, Y), 0, 0) (fun _ => rfl) ?_
                    refine yi_D_iinc [(5, .inl (y5 + 1)), (4, .inl 0), (3, .inl (S.1.2.1 : Int)), (0, .inr (.inr (some 82))), (1, .inl x), (2, .inl y)] rfl rfl rfl (by rw [show yi_w (y5 + 1) = y5 + 1 from (yi_wn (by omega) (by omega)).trans (by omega)]; rfl) ?_
                    refine yi_D_run 1 (111, [(5, .inl (y5 + 1)), (4, .inl 0), (3, .inl (S.1.2.1 : Int)), (0, .inr (.inr (some 82))), (1, .inl x), (2, .inl y)], [], (I20, L15, R, Y), 0, 0) (fun _ => rfl) ?_
                    exact yi_D_mono (ih111 (by omega) (y5 + 1) 0 (by omega) (Or.inr ⟨rfl, fun h => by rcases hz with ⟨h5, h6⟩ | ⟨h5, h6⟩; have h7 := h y5.toNat (by omega); omega; exact h6 (fun j hj => h j (by omega))⟩)) (by omega)
                  · refine yi_D_if1 false rfl (yi_lt_f h29) ?_
                    refine yi_D_run 3 (154, [(4, .inl 1), (5, .inl y5), (3, .inl (S.1.2.1 : Int)), (0, .inr (.inr (some 82))), (1, .inl x), (2, .inl y)], [], (I20, L15, R, Y), 0, 0) (fun _ => rfl) ?_
                    refine yi_D_iinc [(5, .inl (y5 + 1)), (4, .inl 1), (3, .inl (S.1.2.1 : Int)), (0, .inr (.inr (some 82))), (1, .inl x), (2, .inl y)] rfl rfl rfl (by rw [show yi_w (y5 + 1) = y5 + 1 from (yi_wn (by omega) (by omega)).trans (by omega)]; rfl) ?_
                    refine yi_D_run 1 (111, [(5, .inl (y5 + 1)), (4, .inl 1), (3, .inl (S.1.2.1 : Int)), (0, .inr (.inr (some 82))), (1, .inl x), (2, .inl y)], [], (I20, L15, R, Y), 0, 0) (fun _ => rfl) ?_
                    exact yi_D_mono (ih111 (by omega) (y5 + 1) 1 (by omega) (Or.inl ⟨rfl, by rcases hz with ⟨h5, h6⟩ | ⟨h5, h6⟩; exact (fun j hj => by by_cases e : (j : Int) = y5; rw [show pe * (S.1.2.1 - 1) + j = pe * (S.1.2.1 - 1) + y5.toNat by omega, ← hcj]; omega; exact h6 j (by omega)); exfalso; omega⟩)) (by omega)
            exact pt111 k (Nat.le_refl _) 0 1 (by omega) (Or.inl ⟨rfl, fun j hj => absurd hj (by omega)⟩)
          · show yi_D zi_Ms d zi_m12 k (77, [(3, .inl (S.1.2.1 : Int)), (0, .inr (.inr (some 82))), (1, .inl x), (2, .inl y)], [.inl 0], (I1, L9, R, Y), 0, 0) _
            refine yi_D_if1 false rfl (by decide) ?_
            refine yi_D_run 1 (81, [(3, .inl (S.1.2.1 : Int)), (0, .inr (.inr (some 82))), (1, .inl x), (2, .inl y)], [.inl 0], (I1, L9, R, Y), 0, 0) (fun _ => rfl) ?_
            refine yi_D_reti rfl ?_
            exact Or.inl ⟨fun h => absurd h.2.2 (by assumption), _, _, rfl, f1, fun p i h => g211 p i (by omega)⟩
        · refine yi_D_if1 false rfl (yi_lt_f h8) ?_
          refine yi_D_run 1 (58, [(3, .inl (S.1.2.1 : Int)), (0, .inr (.inr (some 82))), (1, .inl x), (2, .inl y)], [.inl 0], (I1, L, R, Y), 0, 0) (fun _ => rfl) ?_
          refine yi_D_reti rfl ?_
          refine Or.inl ⟨?_, _, _, rfl, fun p i h => by rw [← w2, yi_u_ne _ _ h], fun _ _ _ => rfl⟩
          rintro ⟨h1, h2, h3⟩
          omega
    · show yi_D zi_Ms d zi_m12 k (25, [(3, .inl (S.1.2.1 : Int)), (0, .inr (.inr (some 82))), (1, .inl x), (2, .inl y)], [.inl 0], (I1, L, R, Y), 0, 0) _
      refine yi_D_if1 true rfl (by decide) ?_
      refine yi_D_run 1 (58, [(3, .inl (S.1.2.1 : Int)), (0, .inr (.inr (some 82))), (1, .inl x), (2, .inl y)], [.inl 0], (I1, L, R, Y), 0, 0) (fun _ => rfl) ?_
      refine yi_D_reti rfl ?_
      refine Or.inl ⟨?_, _, _, rfl, fun p i h => by rw [← w2, yi_u_ne _ _ h], fun _ _ _ => rfl⟩
      rintro ⟨h1, h2, h3⟩
      omega
  · show yi_D zi_Ms d zi_m12 k (17, [(3, .inl (S.1.2.1 : Int)), (0, .inr (.inr (some 82))), (1, .inl x), (2, .inl y)], [.inl 0], (I1, L, R, Y), 0, 0) _
    refine yi_D_if1 true rfl (by decide) ?_
    refine yi_D_run 1 (58, [(3, .inl (S.1.2.1 : Int)), (0, .inr (.inr (some 82))), (1, .inl x), (2, .inl y)], [.inl 0], (I1, L, R, Y), 0, 0) (fun _ => rfl) ?_
    refine yi_D_reti rfl ?_
    refine Or.inl ⟨?_, _, _, rfl, fun p i h => by rw [← w2, yi_u_ne _ _ h], fun _ _ _ => rfl⟩
    rintro ⟨h1, h2, h3⟩
    omega
