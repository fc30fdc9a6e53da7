/-! The check's ask, whole. -/
theorem mc_x {gg : Nat → Int × Int} {I : Nat → Nat → Int} {x : List (Int × Int)} (h : mc_S gg I (x ++ [(0, 0)])) : (∀ k, k < x.length → I 89 (1100 + k) = (x.getD k (0, 0)).1 ∧ I 90 (1100 + k) = (x.getD k (0, 0)).2) ∧ I 89 (1100 + x.length) = 0 := by
  obtain ⟨-, h2, -⟩ := h
  have hl : (x ++ [((0 : Int), (0 : Int))]).length = x.length + 1 := by rw [List.length_append, List.length_singleton]
  refine ⟨fun k hk => ?_, ?_⟩
  · have z := h2 k (by omega)
    rw [List.getD_eq_getElem?_getD, List.getElem?_append_left hk, ← List.getD_eq_getElem?_getD] at z
    exact z
  · have z := (h2 x.length (by omega)).1
    rw [List.getD_eq_getElem?_getD, List.getElem?_append_right (Nat.le_refl _), Nat.sub_self] at z
    exact z
theorem lf_0 {b c : Bool} {v : Int} : (!(decide ((0 : Int) = 4) && b) && (c && (decide (¬ v = 0) != decide ((0 : Int) = 2)))) = (c && nz v) := by
  rw [show decide ((0 : Int) = 4) = false from rfl, show decide ((0 : Int) = 2) = false from rfl]
  unfold nz
  cases decide (¬ v = 0) <;> cases b <;> cases c <;> rfl
def qa_I (I I' : Nat → Nat → Int) : Prop := ∀ p k, ¬ (p = 82 ∧ (k = 0 ∨ k = 2 ∨ k = 3 ∨ k = 7 ∨ k = 8 ∨ k = 13 ∨ k = 20 ∨ k = 28 ∨ k = 33)) ∧ ¬ p = 84 ∧ ¬ p = 85 ∧ ¬ (p = 89 ∧ 1100 ≤ k) ∧ ¬ (p = 90 ∧ 1100 ≤ k) ∧ ¬ p = 96 ∧ ¬ p = 99 ∧ ¬ (p = 102 ∧ k = 0) → I' p k = I p k
theorem q_askC {d : Nat} {I L : Nat → Nat → Int} {R : Nat → Nat → Option Nat} {Y : (Nat → Nat) × (Nat → Nat) × Nat} (hS : ym_S (R, Y)) {s : Nat → Int} {n : Nat} {ld : Nat → Int} {nm : Int → Int} (hn : n ≤ 1000) (h2 : I 82 2 = (n : Int)) (ht : ∀ i, i < n → I 83 i = s i) (hWd : ∀ w : Nat, w < 32 → L 87 w = sp_W37.getD w 0) (hlm : lm_R ld nm I L) {da pe ev m F nb : Nat} (h0 : ld 0 = (da : Int) ∧ ld 1 = (pe : Int) ∧ ld 2 = (ev : Int)) (hmm : m = mny da pe ev ∧ (1 ≤ F ∧ F ≤ 32768) ∧ nb = (F + 63) / 64) (h24 : I 82 24 = (F : Int) ∧ I 82 25 = (nb : Int) ∧ ∀ k, k < m → I 98 k = ((ev ^ (m - 1 - k) : Nat) : Int)) (hNM : sp_NM pe ev nm) : yi_P zi_Ms d 1 [.inr (.inr (some 82))] (I, L, R, Y) (fun r => ∃ f I' L', r = (some (.inl f), (I', L', R, Y), 0, 0) ∧ sp_R (tk_Ks s n) (tk_Ps s n) (tk_Vs s n) (3, 0, 0, [10, 22], ld, nm, []) (.inr f) ∧ ((¬ f = 0 ∧ ra_I I I' ∧ ∀ p k, p ≠ 86 → L' p k = L p k) ∨ (f = 0 ∧ qa_I I I' ∧ (∀ p k, p ≠ 86 → ¬ (p = 97 ∧ 512 * 33 ≤ k ∧ k < 512 * 33 + nb) → L' p k = L p k) ∧ I' 102 0 = 1 ∧ I' 82 28 = 0 ∧ ∃ a cs, (sp_R (tk_Ks s n) (tk_Ps s n) (tk_Vs s n) (3, 0, 0, [10, 22], ld, nm, []) (.inl (7, a, 0, [22], ld, nm, cs)) ∧ tk_Ks s n a = 59 ∧ tk_Ks s n (a + 1) = 0) ∧ (wfN 13 cs ∧ (∀ x ∈ cs, pF x) ∧ cs.length ≤ 1000) ∧ (∀ x ∈ cs, x.1 = 11 → okz da pe ev x.2) ∧ (∀ x, x < 64 * nb → rbt L' 33 x = (decide (x < F) && vB da pe ev 0 cs x)) ∧ rok L' 33 nb))) := by
  refine yi_P_of (M := zi_m1) rfl (fun d k => ?_)
  show yi_D zi_Ms d zi_m1 k (0, [(0, .inr (.inr (some 82)))], [], (I, L, R, Y), 0, 0) _
  refine yi_D_run 2 (2, [(0, .inr (.inr (some 82)))], [.inl 0, .inr (.inr (some 82))], (I, L, R, Y), 0, 0) (fun _ => rfl) ?_
  refine yi_D_pi rfl (fun _ => ?_)
  generalize w2 : yi_u I 82 0 0 = I1
  refine yi_D_run 2 (7, [(0, .inr (.inr (some 82)))], [.inl 0, .inr (.inr (some 82))], (I1, L, R, Y), 0, 0) (fun _ => rfl) ?_
  have f1 : ∀ p i, ¬ (p = 82 ∧ i = 0) → I1 p i = I p i := fun p i h => by rw [← w2, yi_u_ne _ _ h]
  refine yi_D_callv rfl (q_readAskC hS hn ((f1 82 2 (by omega)).trans h2) (fun i hi => (f1 83 i (by omega)).trans (ht i hi)) hWd (lm_R_t hlm (fun k _ => f1 88 k (by omega)) (fun k => f1 93 k (by omega)) (fun _ => rfl) (f1 82 18 (by omega)))) ?_
  rintro _ ⟨I3, L4, f5, rfl, h86, f07, sp8, ra9, fl10, ok11⟩
  have hra : ra_I I I3 := fun p k e => (ra9 p k e).trans (f1 p k (by omega))
  show yi_D zi_Ms d zi_m1 k (10, [(0, .inr (.inr (some 82)))], [.inl 1100], (I3, L4, R, Y), 0, 0) _
  refine yi_D_run 2 (12, [(1, .inl 1100), (0, .inr (.inr (some 82)))], [.inr (.inr (some 82))], (I3, L4, R, Y), 0, 0) (fun _ => rfl) ?_
  refine yi_D_gi (v := f5) rfl rfl rfl h86 (fun _ => ?_)
  by_cases h12 : f5 ≤ 0
  · refine yi_D_if1 true rfl (yi_le_t h12) ?_
    refine yi_D_run 4 (28, [(1, .inl 1100), (0, .inr (.inr (some 82)))], [.inl 0, .inl 1100, .inl 33, .inr (.inr (some 82))], (I3, L4, R, Y), 0, 0) (fun _ => rfl) ?_
    obtain ⟨a0, cs0, ⟨sp0, k59, k00⟩, hmc, wf1, wf2, hlen⟩ := ok11 (by omega)
    have hl4 := hlm.2.2.2.1
    have bld : da ≤ 6 ∧ pe ≤ 4 ∧ ev ≤ 4 := by omega
    have hok0 := sp_ok_R (c := (3, 0, 0, [10, 22], ld, nm, [])) ⟨⟨da, pe, ev, ⟨h0.1, h0.2.1, h0.2.2, hl4.2.2.2.1.1⟩, bld, hNM, fun x hx => by cases hx⟩, fun z => absurd z (by show ¬ (3 : Nat) = 0; omega)⟩ (fun z => absurd z (by show ¬ 8 ≤ 3; omega)) sp0
    obtain ⟨⟨da2, pe2, ev2, hl2, -, -, hz⟩, -⟩ := hok0
    have hl2 : ld 0 = (da2 : Int) ∧ ld 1 = (pe2 : Int) ∧ ld 2 = (ev2 : Int) ∧ 0 ≤ ld 3 := hl2
    obtain rfl : da2 = da := by omega
    obtain rfl : pe2 = pe := by omega
    obtain rfl : ev2 = ev := by omega
    have hz : ∀ x ∈ cs0, x.1 = 11 → okz da2 pe2 ev2 x.2 := hz
    obtain ⟨hx1, hx2⟩ := mc_x hmc
    have hm88 := fun j (hj : j < 6) => (hra 88 j (by omega)).trans (hlm.1 j hj)
    have hpg : pgF I3 pe2 ev2 da2 m F 0 (fun j => I3 95 j) 1100 cs0.length (rnv (fun j => I3 95 j) da2 pe2 ev2 0 cs0) := pgF_V hmm.1 hx1 hx2 ⟨by omega, by omega⟩ wf1 wf2 hz (by decide)
    refine yi_D_callv rfl (q_laysFormulaI (a := 33) (fr := 1100) (n := nb) (m := m) (ki := 0) hS (by omega) ((hm88 0 (by omega)).trans h0.1) ((hm88 1 (by omega)).trans h0.2.1) ((hm88 2 (by omega)).trans h0.2.2) bld hmm.1 ((hra 82 24 (by omega)).trans h24.1) hmm.2.1 ((hra 82 25 (by omega)).trans h24.2.1) (by omega) (fun k hk => (hra 98 k (by omega)).trans (h24.2.2 k hk)) (fun j _ => rfl) (by omega) hpg) ?_
    rintro _ ⟨I13, L14, rfl, a15, b16, c17, e18, f19⟩
    show yi_D zi_Ms d zi_m1 k (31, [(1, .inl 1100), (0, .inr (.inr (some 82)))], [], (I13, L14, R, Y), 0, 0) _
    refine yi_D_run 1 (32, [(1, .inl 1100), (0, .inr (.inr (some 82)))], [.inr (.inr (some 82))], (I13, L14, R, Y), 0, 0) (fun _ => rfl) ?_
    refine yi_D_gr (v := some 102) rfl rfl rfl (ym_S_at hS (j := 19) rfl).1 (fun _ => ?_)
    refine yi_D_run 2 (37, [(1, .inl 1100), (0, .inr (.inr (some 82)))], [.inl 1, .inl 0, .inr (.inr (some 102))], (I13, L14, R, Y), 0, 0) (fun _ => rfl) ?_
    refine yi_D_bs rfl (fun _ _ => ?_)
    show yi_D zi_Ms d zi_m1 k (38, [(1, .inl 1100), (0, .inr (.inr (some 82)))], [], ((yi_u I13 102 0 1), L14, R, Y), 0, 0) _
    generalize w21 : yi_u I13 102 0 1 = I20
    refine yi_D_run 1 (39, [(1, .inl 1100), (0, .inr (.inr (some 82)))], [.inl 0], (I20, L14, R, Y), 0, 0) (fun _ => rfl) ?_
    refine yi_D_reti rfl ?_
    refine ⟨_, _, _, rfl, (show f5 = 0 by omega) ▸ sp8, Or.inr ⟨rfl, fun p k h => ?_, fun p k h1 h2 => (c17 p k h2).trans (fl10 p k h1), ?_, ?_, a0, cs0, ⟨sp0, k59, k00⟩, ⟨wf1, wf2, hlen⟩, hz, fun x hx => ?_, b16⟩⟩
    · rw [← w21, yi_u_ne _ _ (by omega)]
      exact (f19 p k (by omega) (by omega) (by omega)).trans (hra p k (by omega))
    · rw [← w21]
      exact yi_u_eq ..
    · rw [← w21, yi_u_ne _ _ (by omega)]
      exact e18
    · rw [a15 x hx, lf_0, vB_s (fa := fun j => I3 95 j) wf1 wf2]
  · refine yi_D_if1 false rfl (yi_le_f h12) ?_
    refine yi_D_run 1 (19, [(1, .inl 1100), (0, .inr (.inr (some 82)))], [.inr (.inr (some 82))], (I3, L4, R, Y), 0, 0) (fun _ => rfl) ?_
    refine yi_D_gi (v := f5) rfl rfl rfl h86 (fun _ => ?_)
    refine yi_D_reti rfl ?_
    exact ⟨_, _, _, rfl, sp8, Or.inl ⟨by omega, hra, fl10⟩⟩
