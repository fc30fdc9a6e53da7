/-! The class: what came, what is left, reckoned anew; what is remembered. -/
/-- what came, upon the laws: behind so many of days and people -/
def gd (A : Nat → Int) (W : Nat → Nat → Int) (ev : Nat) (cm : Nat → Int) : Nat → Nat → Int
  | 0 => A
  | k + 1 => fun c => if 0 ≤ cm k then yi_land (gd A W ev cm k c) (W (ev * k + (cm k).toNat) c) else gd A W ev cm k c
/-- and sayings -/
def lf (g : Nat → Int) (rows : Nat → Nat → Int) : Nat → Nat → Int
  | 0 => g
  | i + 1 => fun c => yi_land (lf g rows i c) (rows i c)
theorem kx_lt {pe da d q : Nat} (hd : d < da) (hq : q < pe) : pe * d + q < da * pe := by
  have h1 : pe * (d + 1) ≤ pe * da := Nat.mul_le_mul_left pe hd
  rw [Nat.mul_succ] at h1
  rw [Nat.mul_comm da pe]
  omega
/-- rows of the words, none of them the row p with its cells c -/
def wd_C (I L : Nat → Nat → Int) (R : Nat → Nat → Option Nat) (Y : (Nat → Nat) × (Nat → Nat) × Nat) (n da pe ev : Nat) (W : Nat → Nat → Int) (p c : Nat) : Prop := ∀ d q e, d < da → q < pe → e < ev → ∃ pw cw, R 39 (16 * d + 4 * q + e) = some pw ∧ rw_S I R Y pw cw n ∧ (∀ k, k < n → L cw k = W (ev * (pe * d + q) + e) k) ∧ ¬ pw = p ∧ ¬ cw = c
/-- rows of the sayings of a story -/
def sg_C (I L : Nat → Nat → Int) (R : Nat → Nat → Option Nat) (Y : (Nat → Nat) × (Nat → Nat) × Nat) (n s t : Nat) (rows : Nat → Nat → Int) (p c : Nat) : Prop := ∀ i, i < t → ∃ y f cf, R (s + 1) i = some y ∧ 10 ≤ y ∧ y < Y.2.2 ∧ R y 3 = some f ∧ rw_S I R Y f cf n ∧ (∀ k, k < n → L cf k = rows i k) ∧ ¬ f = p ∧ ¬ cf = c
theorem rw_S_t {I : Nat → Nat → Int} {R : Nat → Nat → Option Nat} {Y : (Nat → Nat) × (Nat → Nat) × Nat} {I' : Nat → Nat → Int} {R' : Nat → Nat → Option Nat} {Y' : (Nat → Nat) × (Nat → Nat) × Nat} {p c n : Nat} (h : rw_S I R Y p c n) (hI : I' p 1 = I p 1) (hR : R' p 0 = R p 0) (hN : Y.2.2 ≤ Y'.2.2) (hY : ∀ q, q < Y.2.2 → Y'.1 q = Y.1 q ∧ Y'.2.1 q = Y.2.1 q) : rw_S I' R' Y' p c n := by
  obtain ⟨⟨a1, a2, a3, a4, a5, a6⟩, b, c1, d, e⟩ := h
  refine ⟨⟨a1, a2, by omega, by omega, by rw [(hY p a3).1]; exact a5, by rw [(hY c a4).1]; exact a6⟩, hR.trans b, hI.trans c1, by rw [(hY c a4).2]; exact d, e⟩
theorem sy_T_at {R : Nat → Nat → Option Nat} {Y : (Nat → Nat) × (Nat → Nat) × Nat} (hA : at_T R Y) : sy_T R Y 50 := ⟨⟨by omega, by have := hA.2.2.2; omega, at_k hA (j := 10) rfl, at_nk hA (j := 12) rfl, at_nk hA (j := 13) rfl, at_nk hA (j := 14) rfl, at_nk hA (j := 15) rfl, at_nk hA (j := 16) rfl⟩, ⟨at_r hA (j := 32) rfl, at_r hA (j := 33) rfl, at_r hA (j := 34) rfl, at_r hA (j := 35) rfl, at_r hA (j := 36) rfl⟩, at_n hA (j := 12) rfl, at_n hA (j := 13) rfl, at_n hA (j := 14) rfl, at_n hA (j := 15) rfl, at_n hA (j := 16) rfl⟩
theorem p_groundInto {d : Nat} {I L : Nat → Nat → Int} {R : Nat → Nat → Option Nat} {Y : (Nat → Nat) × (Nat → Nat) × Nat} {q n da pe ev : Nat} {A cm : Nat → Int} {W : Nat → Nat → Int} (hA : at_T R Y) (h16 : R 10 16 = some q) (hq : 10 ≤ q) (hqN : q < Y.2.2) (hda : I q 14 = (da : Int)) (hpe : I q 15 = (pe : Int)) (hev : I q 16 = (ev : Int)) (bld : da ≤ 6 ∧ pe ≤ 4 ∧ ev ≤ 4) {p c : Nat} (hp : p = 58 ∨ p = 60) (hpN : 10 ≤ c ∧ c < Y.2.2 ∧ Y.1 c = 21) (hR : R p 0 = some c) {cl : Nat} (hl : rw_S I R Y 35 cl n) (hlA : ∀ k, k < n → L cl k = A k) (hcl : ¬ c = cl) (hW : wd_C I L R Y n da pe ev W p c) (hcm : ∀ d q, d < da → q < pe → I 53 (4 * d + q) = cm (pe * d + q)) (hcb : ∀ k, k < da * pe → cm k = -1 ∨ (0 ≤ cm k ∧ cm k < ev)) (hn : 1 ≤ n) : yi_P zi_Ms d 158 [.inr (.inr (some 10)), .inr (.inr (some p))] (I, L, R, Y) (fun r => ∃ I' L' R' Y' nc ns c', r = (none, (I', L', R', Y'), nc, ns) ∧ rz_H I R Y I' R' Y' p n c c' ∧ (∀ k, k < n → L' c' k = gd A W ev cm (da * pe) k) ∧ (∀ q k, q < Y.2.2 → ¬ (q = c' ∧ k < n) → L' q k = L q k)) := by
  refine yi_P_of (M := zi_m158) rfl (fun d k => ?_)
  have hNA := hA.2.2.2
  show yi_D zi_Ms d zi_m158 k (0, [(0, .inr (.inr (some 10))), (1, .inr (.inr (some p)))], [], (I, L, R, Y), 0, 0) _
  refine yi_D_run 2 (2, [(0, .inr (.inr (some 10))), (1, .inr (.inr (some p)))], [.inr (.inr (some 10)), .inr (.inr (some p))], (I, L, R, Y), 0, 0) (fun _ => rfl) ?_
  refine yi_D_gr (v := some 34) rfl rfl rfl (at_r hA (j := 2) rfl) (fun _ => ?_)
  refine yi_D_gr (v := some 35) rfl rfl rfl (at_r hA (j := 24) rfl) (fun _ => ?_)
  refine yi_D_callv rfl (p_copyFrom ⟨by omega, by omega, hpN.1, hpN.2.1, hpN.2.2⟩ hR hl hn ⟨by omega, hcl⟩) ?_
  rintro _ ⟨I1, L2, R3, Y4, n5, m6, c7, rfl, hz8, hL9, hM10⟩
  have hfI11 : ∀ q k, (q < Y.2.2 ∧ ¬ (q = p ∧ k = 1)) → I1 q k = I q k := fun q k h => (hz8.2.1 q k h.1).1 h.2
  have hfR12 : ∀ q k, (q < Y.2.2 ∧ ¬ (q = p ∧ k = 0)) → R3 q k = R q k := fun q k h => (hz8.2.1 q k h.1).2 h.2
  have hfY13 : ∀ q, q < Y.2.2 → Y4.1 q = Y.1 q ∧ Y4.2.1 q = Y.2.1 q := hz8.2.2.1.2
  have hNN14 := hz8.2.2.1.1
  obtain ⟨z115, z216, z317, z418, z519, z620⟩ := hz8.1
  have hA3 : at_T R3 Y4 := at_T_t hA (fun q hq => (hz8.2.1 q.1 q.2.1 (by have b1 : ∀ q ∈ at_L, q.1 < 110 := (by decide); have := b1 q hq; have := hA.2.2.2; omega)).2 (by have b1 : ∀ q ∈ at_L, ¬ (q.1 = 58 ∧ q.2.1 = 0) ∧ ¬ (q.1 = 60 ∧ q.2.1 = 0) := (by decide); have := b1 q hq; omega)) hNN14 hfY13
  have hT3 : sy_T R3 Y4 50 := sy_T_at hA3
  have hf3 : rw_S I1 R3 Y4 p c7 n := ⟨⟨by omega, z418, by omega, z519, by rw [(hfY13 p (by omega)).1]; rcases hp with rfl | rfl; exact at_k hA (j := 11) rfl; exact at_k hA (j := 12) rfl, z620⟩, z115, z216, z317, hl.2.2.2.2⟩
  have hcc : c7 = c ∨ Y.2.2 ≤ c7 := by rcases hz8.2.2.2 with ⟨a, -, -⟩ | ⟨a, -, -, -⟩ <;> omega
  show yi_D zi_Ms d zi_m158 k (11, [(0, .inr (.inr (some 10))), (1, .inr (.inr (some p)))], [], (I1, L2, R3, Y4), (0 + n5), (0 + m6)) _
  refine yi_D_run 2 (13, [(2, .inl 1), (0, .inr (.inr (some 10))), (1, .inr (.inr (some p)))], [], (I1, L2, R3, Y4), (0 + n5), (0 + m6)) (fun _ => rfl) ?_
  have pt13 : ∀ j13, j13 ≤ k → ∀ (y2 : Int) (z3 : Int) (z4 : Int) (G2 : Nat → Nat → Int), (1 ≤ y2 ∧ y2 ≤ (da : Int) + 1) → (∀ k, k < n → G2 c7 k = gd A W ev cm (pe * (y2 - 1).toNat) k) → (∀ q k, q < Y.2.2 → ¬ (q = c7 ∧ k < n) → G2 q k = L2 q k) → yi_D zi_Ms d zi_m158 j13 (13, [(2, .inl y2), (0, .inr (.inr (some 10))), (1, .inr (.inr (some p))), (3, .inl z3), (4, .inl z4)], [], (I1, G2, R3, Y4), (0 + n5), (0 + m6)) (fun r => ∃ I' L' R' Y' nc ns c', r = (none, (I', L', R', Y'), nc, ns) ∧ rz_H I R Y I' R' Y' p n c c' ∧ (∀ k, k < n → L' c' k = gd A W ev cm (da * pe) k) ∧ (∀ q k, q < Y.2.2 → ¬ (q = c' ∧ k < n) → L' q k = L q k)) := by
    intro j13
    induction j13 with
    | zero => intros; exact yi_D_0
    | succ j13 ih13 =>
    intro hk13 y2 z3 z4 G2 hy2 hg2 hm2
    refine yi_D_run1 1 (15, [(2, .inl y2), (0, .inr (.inr (some 10))), (1, .inr (.inr (some p))), (3, .inl z3), (4, .inl z4)], [.inr (.inr (some 10)), .inl y2], (I1, G2, R3, Y4), (0 + n5), (0 + m6)) (fun _ => rfl) ?_
    have r21 : R3 10 16 = some q := by rw [hfR12 10 16 (by omega), h16]
    refine yi_D_gr (v := some q) rfl rfl rfl r21 (fun _ => ?_)
    have r22 : I1 q 14 = (da : Int) := by rw [hfI11 q 14 (by omega), hda]
    refine yi_D_gi (v := (da : Int)) rfl rfl (Nat.ble_eq_true_of_le (by omega)) r22 (fun _ => ?_)
    by_cases h23 : (da : Int) < y2
    · refine yi_D_if2 true rfl (yi_gt_t h23) ?_
      refine yi_D_retv rfl ?_
      have hy2 : da * pe = pe * (y2 - 1).toNat := by rw [show (y2 - 1).toNat = da by omega, Nat.mul_comm]
      exact ⟨_, _, _, _, _, _, c7, rfl, hz8, fun k hk => by rw [hy2]; exact hg2 k hk, fun q k hq h => by rw [hm2 q k hq h]; exact hM10 q k hq h⟩
    · refine yi_D_if2 false rfl (yi_gt_f h23) ?_
      refine yi_D_run 2 (26, [(3, .inl 0), (2, .inl y2), (0, .inr (.inr (some 10))), (1, .inr (.inr (some p))), (4, .inl z4)], [], (I1, G2, R3, Y4), (0 + n5), (0 + m6)) (fun _ => rfl) ?_
      have pt26 : ∀ j26, j26 ≤ j13 → ∀ (y3 : Int) (z4b : Int) (G3 : Nat → Nat → Int), (0 ≤ y3 ∧ y3 ≤ (pe : Int)) → (∀ k, k < n → G3 c7 k = gd A W ev cm (pe * (y2 - 1).toNat + y3.toNat) k) → (∀ q k, q < Y.2.2 → ¬ (q = c7 ∧ k < n) → G3 q k = L2 q k) → yi_D zi_Ms d zi_m158 j26 (26, [(3, .inl y3), (2, .inl y2), (0, .inr (.inr (some 10))), (1, .inr (.inr (some p))), (4, .inl z4b)], [], (I1, G3, R3, Y4), (0 + n5), (0 + m6)) (fun r => ∃ I' L' R' Y' nc ns c', r = (none, (I', L', R', Y'), nc, ns) ∧ rz_H I R Y I' R' Y' p n c c' ∧ (∀ k, k < n → L' c' k = gd A W ev cm (da * pe) k) ∧ (∀ q k, q < Y.2.2 → ¬ (q = c' ∧ k < n) → L' q k = L q k)) := by
        intro j26
        induction j26 with
        | zero => intros; exact yi_D_0
        | succ j26 ih26 =>
        intro hk26 y3 z4b G3 hy3 hg3 hm3
        refine yi_D_run1 1 (28, [(3, .inl y3), (2, .inl y2), (0, .inr (.inr (some 10))), (1, .inr (.inr (some p))), (4, .inl z4b)], [.inr (.inr (some 10)), .inl y3], (I1, G3, R3, Y4), (0 + n5), (0 + m6)) (fun _ => rfl) ?_
        have r24 : R3 10 16 = some q := by rw [hfR12 10 16 (by omega), h16]
        refine yi_D_gr (v := some q) rfl rfl rfl r24 (fun _ => ?_)
        have r25 : I1 q 15 = (pe : Int) := by rw [hfI11 q 15 (by omega), hpe]
        refine yi_D_gi (v := (pe : Int)) rfl rfl (Nat.ble_eq_true_of_le (by omega)) r25 (fun _ => ?_)
        by_cases h26 : (pe : Int) ≤ y3
        · refine yi_D_if2 true rfl (yi_ge_t h26) ?_
          refine yi_D_iinc [(2, .inl (y2 + 1)), (3, .inl y3), (0, .inr (.inr (some 10))), (1, .inr (.inr (some p))), (4, .inl z4b)] rfl rfl rfl (by rw [show yi_w (y2 + 1) = y2 + 1 from (yi_wn (by omega) (by omega)).trans (by omega)]; rfl) ?_
          refine yi_D_run 1 (13, [(2, .inl (y2 + 1)), (3, .inl y3), (0, .inr (.inr (some 10))), (1, .inr (.inr (some p))), (4, .inl z4b)], [], (I1, G3, R3, Y4), (0 + n5), (0 + m6)) (fun _ => rfl) ?_
          refine yi_D_al (al := [(2, .inl (y2 + 1)), (0, .inr (.inr (some 10))), (1, .inr (.inr (some p))), (3, .inl y3), (4, .inl z4b)]) (show ([2, 0, 1, 3, 4] : List Nat).Nodup by decide) (show ([2, 3, 0, 1, 4] : List Nat).Nodup by decide) (yi_mc (List.mem_of_getElem? (i := 0) rfl) (yi_mc (List.mem_of_getElem? (i := 3) rfl) (yi_mc (List.mem_of_getElem? (i := 1) rfl) (yi_mc (List.mem_of_getElem? (i := 2) rfl) (yi_mc (List.mem_of_getElem? (i := 4) rfl) yi_mn))))) ?_
          exact yi_D_mono (ih13 (by omega) (y2 + 1) y3 z4b G3 (by omega) (fun k hk => by rw [show pe * (y2 + 1 - 1).toNat = pe * (y2 - 1).toNat + y3.toNat by rw [show (y2 + 1 - 1).toNat = (y2 - 1).toNat + 1 by omega, Nat.mul_succ]; omega]; exact hg3 k hk) hm3) (by omega)
        · refine yi_D_if2 false rfl (yi_ge_f h26) ?_
          refine yi_D_run 1 (38, [(3, .inl y3), (2, .inl y2), (0, .inr (.inr (some 10))), (1, .inr (.inr (some p))), (4, .inl z4b)], [.inr (.inr (some 10))], (I1, G3, R3, Y4), (0 + n5), (0 + m6)) (fun _ => rfl) ?_
          have r27 : R3 10 6 = some 50 := by rw [hfR12 10 6 (by omega), (at_r hA (j := 6) rfl)]
          refine yi_D_gr (v := some 50) rfl rfl rfl r27 (fun _ => ?_)
          refine yi_D_run 2 (43, [(3, .inl y3), (2, .inl y2), (0, .inr (.inr (some 10))), (1, .inr (.inr (some p))), (4, .inl z4b)], [.inl y2, .inl y3, .inr (.inr (some 50))], (I1, G3, R3, Y4), (0 + n5), (0 + m6)) (fun _ => rfl) ?_
          refine yi_D_callv rfl (p_cameOf hT3) ?_
          rintro _ rfl
          rw [if_pos (by omega), show (4 * (y2 - 1) + y3).toNat = 4 * (y2 - 1).toNat + y3.toNat by omega, show 50 + 3 = 53 from rfl, hfI11 53 _ (by omega), hcm (y2 - 1).toNat y3.toNat (by omega) (by omega)]
          have hkx := kx_lt (pe := pe) (da := da) (d := (y2 - 1).toNat) (q := y3.toNat) (by omega) (by omega)
          have hcv := hcb _ hkx
          show yi_D zi_Ms d zi_m158 j26 (46, [(3, .inl y3), (2, .inl y2), (0, .inr (.inr (some 10))), (1, .inr (.inr (some p))), (4, .inl z4b)], [.inl (cm (pe * (y2 - 1).toNat + y3.toNat))], (I1, G3, R3, Y4), (0 + n5), (0 + m6)) _
          refine yi_D_run 2 (49, [(4, .inl (cm (pe * (y2 - 1).toNat + y3.toNat))), (3, .inl y3), (2, .inl y2), (0, .inr (.inr (some 10))), (1, .inr (.inr (some p)))], [.inr (.inr (some 10))], (I1, G3, R3, Y4), (0 + n5), (0 + m6)) (fun _ => rfl) ?_
          have r28 : R3 10 16 = some q := by rw [hfR12 10 16 (by omega), h16]
          refine yi_D_gr (v := some q) rfl rfl rfl r28 (fun _ => ?_)
          refine yi_D_run 1 (54, [(4, .inl (cm (pe * (y2 - 1).toNat + y3.toNat))), (3, .inl y3), (2, .inl y2), (0, .inr (.inr (some 10))), (1, .inr (.inr (some p)))], [.inl (cm (pe * (y2 - 1).toNat + y3.toNat)), .inr (.inr (some q))], (I1, G3, R3, Y4), (0 + n5), (0 + m6)) (fun _ => rfl) ?_
          refine yi_D_callv rfl (p_isEvent hq (n := (ev : Int)) (by rw [hfI11 q 16 (by omega)]; exact hev) (by omega)) ?_
          rintro _ (⟨hb29, rfl⟩ | ⟨hb30, rfl⟩)
          · show yi_D zi_Ms d zi_m158 j26 (57, [(4, .inl (cm (pe * (y2 - 1).toNat + y3.toNat))), (3, .inl y3), (2, .inl y2), (0, .inr (.inr (some 10))), (1, .inr (.inr (some p)))], [.inl 1], (I1, G3, R3, Y4), (0 + n5), (0 + m6)) _
            refine yi_D_if1 false rfl (by decide) ?_
            refine yi_D_run 2 (62, [(4, .inl (cm (pe * (y2 - 1).toNat + y3.toNat))), (3, .inl y3), (2, .inl y2), (0, .inr (.inr (some 10))), (1, .inr (.inr (some p)))], [.inr (.inr (some 10)), .inr (.inr (some p))], (I1, G3, R3, Y4), (0 + n5), (0 + m6)) (fun _ => rfl) ?_
            have r31 : R3 10 2 = some 34 := by rw [hfR12 10 2 (by omega), (at_r hA (j := 2) rfl)]
            refine yi_D_gr (v := some 34) rfl rfl rfl r31 (fun _ => ?_)
            refine yi_D_run 3 (69, [(4, .inl (cm (pe * (y2 - 1).toNat + y3.toNat))), (3, .inl y3), (2, .inl y2), (0, .inr (.inr (some 10))), (1, .inr (.inr (some p)))], [.inl (cm (pe * (y2 - 1).toNat + y3.toNat)), .inl y2, .inl y3, .inr (.inr (some 34)), .inr (.inr (some p))], (I1, G3, R3, Y4), (0 + n5), (0 + m6)) (fun _ => rfl) ?_
            refine yi_D_calls rfl (p_wordNumber ⟨by omega, by omega⟩ ⟨by omega, by omega⟩ ⟨by omega, by omega⟩) ?_
            rintro _ rfl
            show yi_D zi_Ms d zi_m158 j26 (72, [(4, .inl (cm (pe * (y2 - 1).toNat + y3.toNat))), (3, .inl y3), (2, .inl y2), (0, .inr (.inr (some 10))), (1, .inr (.inr (some p)))], [.inl (16 * (y2 - 1) + 4 * y3 + cm (pe * (y2 - 1).toNat + y3.toNat)), .inr (.inr (some 34)), .inr (.inr (some p))], (I1, G3, R3, Y4), (0 + n5), (0 + m6)) _
            obtain ⟨pw, cw, w1, w2, w3, w4, w5⟩ := hW (y2 - 1).toNat y3.toNat (cm (pe * (y2 - 1).toNat + y3.toNat)).toNat (by omega) (by omega) (by omega)
            have w6 : R3 39 (16 * (y2 - 1) + 4 * y3 + cm (pe * (y2 - 1).toNat + y3.toNat)).toNat = some pw := by rw [show (16 * (y2 - 1) + 4 * y3 + cm (pe * (y2 - 1).toNat + y3.toNat)).toNat = 16 * (y2 - 1).toNat + 4 * y3.toNat + (cm (pe * (y2 - 1).toNat + y3.toNat)).toNat by omega, hfR12 39 _ (by omega)]; exact w1
            have w7 : rw_S I1 R3 Y4 pw cw n := rw_S_t w2 (hfI11 pw 1 ⟨w2.1.2.2.1, by omega⟩) (hfR12 pw 0 ⟨w2.1.2.2.1, by omega⟩) hNN14 hfY13
            have w8 := w2.1.2.2.2.1
            refine yi_D_callv rfl (p_wordRow hA3 (w := pw) (by omega) w6) ?_
            rintro _ rfl
            show yi_D zi_Ms d zi_m158 j26 (75, [(4, .inl (cm (pe * (y2 - 1).toNat + y3.toNat))), (3, .inl y3), (2, .inl y2), (0, .inr (.inr (some 10))), (1, .inr (.inr (some p)))], [.inr (.inr (some pw)), .inr (.inr (some p))], (I1, G3, R3, Y4), (0 + n5), (0 + m6)) _
            refine yi_D_callv rfl (p_keep hf3 w7) ?_
            rintro _ ⟨L32, rfl, k133, k234⟩
            have hkp : ∀ k, k < n → L32 c7 k = gd A W ev cm (pe * (y2 - 1).toNat + y3.toNat + 1) k := fun k hk => by rw [k133 k hk, hg3 k hk, hm3 cw k w8 (by omega), hM10 cw k (by omega) (by omega), w3 k hk]; exact (if_pos (by omega)).symm
            have hkf : ∀ q k, q < Y.2.2 → ¬ (q = c7 ∧ k < n) → L32 q k = L2 q k := fun q k hq h => by rw [k234 q k h]; exact hm3 q k hq h
            show yi_D zi_Ms d zi_m158 j26 (78, [(4, .inl (cm (pe * (y2 - 1).toNat + y3.toNat))), (3, .inl y3), (2, .inl y2), (0, .inr (.inr (some 10))), (1, .inr (.inr (some p)))], [], (I1, L32, R3, Y4), (0 + n5), (0 + m6)) _
            refine yi_D_iinc [(3, .inl (y3 + 1)), (4, .inl (cm (pe * (y2 - 1).toNat + y3.toNat))), (2, .inl y2), (0, .inr (.inr (some 10))), (1, .inr (.inr (some p)))] rfl rfl rfl (by rw [show yi_w (y3 + 1) = y3 + 1 from (yi_wn (by omega) (by omega)).trans (by omega)]; rfl) ?_
            refine yi_D_run 1 (26, [(3, .inl (y3 + 1)), (4, .inl (cm (pe * (y2 - 1).toNat + y3.toNat))), (2, .inl y2), (0, .inr (.inr (some 10))), (1, .inr (.inr (some p)))], [], (I1, L32, R3, Y4), (0 + n5), (0 + m6)) (fun _ => rfl) ?_
            refine yi_D_al (al := [(3, .inl (y3 + 1)), (2, .inl y2), (0, .inr (.inr (some 10))), (1, .inr (.inr (some p))), (4, .inl (cm (pe * (y2 - 1).toNat + y3.toNat)))]) (show ([3, 2, 0, 1, 4] : List Nat).Nodup by decide) (show ([3, 4, 2, 0, 1] : List Nat).Nodup by decide) (yi_mc (List.mem_of_getElem? (i := 0) rfl) (yi_mc (List.mem_of_getElem? (i := 4) rfl) (yi_mc (List.mem_of_getElem? (i := 1) rfl) (yi_mc (List.mem_of_getElem? (i := 2) rfl) (yi_mc (List.mem_of_getElem? (i := 3) rfl) yi_mn))))) ?_
            exact yi_D_mono (ih26 (by omega) (y3 + 1) (cm (pe * (y2 - 1).toNat + y3.toNat)) L32 (by omega) (fun k hk => by rw [show pe * (y2 - 1).toNat + (y3 + 1).toNat = pe * (y2 - 1).toNat + y3.toNat + 1 by omega]; exact hkp k hk) hkf) (by omega)
          · show yi_D zi_Ms d zi_m158 j26 (57, [(4, .inl (cm (pe * (y2 - 1).toNat + y3.toNat))), (3, .inl y3), (2, .inl y2), (0, .inr (.inr (some 10))), (1, .inr (.inr (some p)))], [.inl 0], (I1, G3, R3, Y4), (0 + n5), (0 + m6)) _
            refine yi_D_if1 true rfl (by decide) ?_
            refine yi_D_iinc [(3, .inl (y3 + 1)), (4, .inl (cm (pe * (y2 - 1).toNat + y3.toNat))), (2, .inl y2), (0, .inr (.inr (some 10))), (1, .inr (.inr (some p)))] rfl rfl rfl (by rw [show yi_w (y3 + 1) = y3 + 1 from (yi_wn (by omega) (by omega)).trans (by omega)]; rfl) ?_
            refine yi_D_run 1 (26, [(3, .inl (y3 + 1)), (4, .inl (cm (pe * (y2 - 1).toNat + y3.toNat))), (2, .inl y2), (0, .inr (.inr (some 10))), (1, .inr (.inr (some p)))], [], (I1, G3, R3, Y4), (0 + n5), (0 + m6)) (fun _ => rfl) ?_
            refine yi_D_al (al := [(3, .inl (y3 + 1)), (2, .inl y2), (0, .inr (.inr (some 10))), (1, .inr (.inr (some p))), (4, .inl (cm (pe * (y2 - 1).toNat + y3.toNat)))]) (show ([3, 2, 0, 1, 4] : List Nat).Nodup by decide) (show ([3, 4, 2, 0, 1] : List Nat).Nodup by decide) (yi_mc (List.mem_of_getElem? (i := 0) rfl) (yi_mc (List.mem_of_getElem? (i := 4) rfl) (yi_mc (List.mem_of_getElem? (i := 1) rfl) (yi_mc (List.mem_of_getElem? (i := 2) rfl) (yi_mc (List.mem_of_getElem? (i := 3) rfl) yi_mn))))) ?_
            exact yi_D_mono (ih26 (by omega) (y3 + 1) (cm (pe * (y2 - 1).toNat + y3.toNat)) G3 (by omega) (fun k hk => by rw [show pe * (y2 - 1).toNat + (y3 + 1).toNat = pe * (y2 - 1).toNat + y3.toNat + 1 by omega]; exact (hg3 k hk).trans (if_neg (by omega)).symm) hm3) (by omega)
      exact pt26 j13 (Nat.le_refl _) 0 z4 G2 (by omega) (fun k hk => by rw [show pe * (y2 - 1).toNat + (0 : Int).toNat = pe * (y2 - 1).toNat by omega]; exact hg2 k hk) hm2
  refine yi_D_al (al := [(2, .inl 1), (0, .inr (.inr (some 10))), (1, .inr (.inr (some p))), (3, .inl 0), (4, .inl 0)]) (show ([2, 0, 1, 3, 4] : List Nat).Nodup by decide) (show ([2, 0, 1] : List Nat).Nodup by decide) (yi_mc (List.mem_of_getElem? (i := 0) rfl) (yi_mc (List.mem_of_getElem? (i := 1) rfl) (yi_mc (List.mem_of_getElem? (i := 2) rfl) yi_mn))) ?_
  exact pt13 k (Nat.le_refl _) 1 0 0 L2 (by omega) (fun k hk => by rw [hL9 k hk, hlA k hk]; rfl) (fun _ _ _ _ => rfl)
theorem p_sayingRow {d : Nat} {I L : Nat → Nat → Int} {R : Nat → Nat → Option Nat} {Y : (Nat → Nat) × (Nat → Nat) × Nat} (hA : at_T R Y) {x : Int} {t y f : Nat} (ht : I 50 6 = (t : Int)) (ht2 : t ≤ 12) (hx : 0 ≤ x ∧ x < t) (h1 : R 51 x.toNat = some y) (hy : 10 ≤ y) (h2 : R y 3 = some f) : yi_P zi_Ms d 173 [.inr (.inr (some 10)), .inl x] (I, L, R, Y) (fun r => r = (some (.inr (.inr (some f))), (I, L, R, Y), 0, 0)) := by
  refine yi_P_of (M := zi_m173) rfl (fun d k => ?_)
  have hT50 : sy_T R Y 50 := sy_T_at hA
  show yi_D zi_Ms d zi_m173 k (0, [(0, .inr (.inr (some 10))), (1, .inl x)], [], (I, L, R, Y), 0, 0) _
  refine yi_D_run 1 (1, [(0, .inr (.inr (some 10))), (1, .inl x)], [.inr (.inr (some 10))], (I, L, R, Y), 0, 0) (fun _ => rfl) ?_
  refine yi_D_gr (v := some 50) rfl rfl rfl (at_r hA (j := 6) rfl) (fun _ => ?_)
  refine yi_D_run 1 (5, [(0, .inr (.inr (some 10))), (1, .inl x)], [.inl x, .inr (.inr (some 50))], (I, L, R, Y), 0, 0) (fun _ => rfl) ?_
  refine yi_D_callv rfl (p_sayingAt hT50 ht (by omega)) ?_
  rintro _ (⟨hb1, rfl⟩ | ⟨hb2, rfl⟩)
  · rw [show (50 : Nat) + 1 = 51 from rfl, h1]
    show yi_D zi_Ms d zi_m173 k (8, [(0, .inr (.inr (some 10))), (1, .inl x)], [.inr (.inr (some y))], (I, L, R, Y), 0, 0) _
    refine yi_D_run 2 (10, [(2, .inr (.inr (some y))), (0, .inr (.inr (some 10))), (1, .inl x)], [.inr (.inr (some y))], (I, L, R, Y), 0, 0) (fun _ => rfl) ?_
    refine yi_D_nsx rfl ?_
    refine yi_D_run 1 (24, [(2, .inr (.inr (some y))), (0, .inr (.inr (some 10))), (1, .inl x)], [.inr (.inr (some y))], (I, L, R, Y), 0, 0) (fun _ => rfl) ?_
    refine yi_D_gr (v := some f) rfl rfl (Nat.ble_eq_true_of_le (by omega)) h2 (fun _ => ?_)
    refine yi_D_reta rfl ?_
    rfl
  · exfalso
    omega
theorem p_refreshLeft {d : Nat} {I L : Nat → Nat → Int} {R : Nat → Nat → Option Nat} {Y : (Nat → Nat) × (Nat → Nat) × Nat} {q n da pe ev : Nat} {A cm : Nat → Int} {W : Nat → Nat → Int} (hA : at_T R Y) (h16 : R 10 16 = some q) (hq : 10 ≤ q) (hqN : q < Y.2.2) (hda : I q 14 = (da : Int)) (hpe : I q 15 = (pe : Int)) (hev : I q 16 = (ev : Int)) (bld : da ≤ 6 ∧ pe ≤ 4 ∧ ev ≤ 4) {c : Nat} (hpN : 10 ≤ c ∧ c < Y.2.2 ∧ Y.1 c = 21) (hR : R 58 0 = some c) {cl : Nat} (hl : rw_S I R Y 35 cl n) (hlA : ∀ k, k < n → L cl k = A k) (hcl : ¬ c = cl) (hW : wd_C I L R Y n da pe ev W 58 c) (hcm : ∀ d q, d < da → q < pe → I 53 (4 * d + q) = cm (pe * d + q)) (hcb : ∀ k, k < da * pe → cm k = -1 ∨ (0 ≤ cm k ∧ cm k < ev)) (hn : 1 ≤ n) {t : Nat} {rows : Nat → Nat → Int} (ht : I 50 6 = (t : Int)) (ht2 : t ≤ 12) (hS : sg_C I L R Y n 50 t rows 58 c) : yi_P zi_Ms d 169 [.inr (.inr (some 10))] (I, L, R, Y) (fun r => ∃ I' L' R' Y' nc ns c', r = (none, (I', L', R', Y'), nc, ns) ∧ rz_H I R Y I' R' Y' 58 n c c' ∧ (∀ k, k < n → L' c' k = lf (gd A W ev cm (da * pe)) rows t k) ∧ (∀ q k, q < Y.2.2 → ¬ (q = c' ∧ k < n) → L' q k = L q k)) := by
  refine yi_P_of (M := zi_m169) rfl (fun d k => ?_)
  have hNA := hA.2.2.2
  show yi_D zi_Ms d zi_m169 k (0, [(0, .inr (.inr (some 10)))], [], (I, L, R, Y), 0, 0) _
  refine yi_D_run 2 (2, [(0, .inr (.inr (some 10)))], [.inr (.inr (some 10)), .inr (.inr (some 10))], (I, L, R, Y), 0, 0) (fun _ => rfl) ?_
  refine yi_D_gr (v := some 58) rfl rfl rfl (at_r hA (j := 9) rfl) (fun _ => ?_)
  refine yi_D_callv rfl (p_groundInto hA h16 hq hqN hda hpe hev bld (Or.inl rfl) hpN hR hl hlA hcl hW hcm hcb hn) ?_
  rintro _ ⟨I1, L2, R3, Y4, n5, m6, c7, rfl, hz8, hL9, hM10⟩
  have hfI11 : ∀ q k, (q < Y.2.2 ∧ ¬ (q = 58 ∧ k = 1)) → I1 q k = I q k := fun q k h => (hz8.2.1 q k h.1).1 h.2
  have hfR12 : ∀ q k, (q < Y.2.2 ∧ ¬ (q = 58 ∧ k = 0)) → R3 q k = R q k := fun q k h => (hz8.2.1 q k h.1).2 h.2
  have hfY13 : ∀ q, q < Y.2.2 → Y4.1 q = Y.1 q ∧ Y4.2.1 q = Y.2.1 q := hz8.2.2.1.2
  have hNN14 := hz8.2.2.1.1
  obtain ⟨z115, z216, z317, z418, z519, z620⟩ := hz8.1
  have hA3 : at_T R3 Y4 := at_T_t hA (fun q hq => (hz8.2.1 q.1 q.2.1 (by have b1 : ∀ q ∈ at_L, q.1 < 110 := (by decide); have := b1 q hq; have := hA.2.2.2; omega)).2 (by have b1 : ∀ q ∈ at_L, ¬ (q.1 = 58 ∧ q.2.1 = 0) := (by decide); exact b1 q hq)) hNN14 hfY13
  have hf3 : rw_S I1 R3 Y4 58 c7 n := ⟨⟨by omega, z418, by have := hA.2.2.2; omega, z519, by rw [(hfY13 58 (by have := hA.2.2.2; omega)).1]; exact at_k hA (j := 11) rfl, z620⟩, z115, z216, z317, hl.2.2.2.2⟩
  have hcc : c7 = c ∨ Y.2.2 ≤ c7 := by rcases hz8.2.2.2 with ⟨a, -, -⟩ | ⟨a, -, -, -⟩ <;> omega
  show yi_D zi_Ms d zi_m169 k (8, [(0, .inr (.inr (some 10)))], [], (I1, L2, R3, Y4), (0 + n5), (0 + m6)) _
  refine yi_D_run 2 (10, [(1, .inl 0), (0, .inr (.inr (some 10)))], [], (I1, L2, R3, Y4), (0 + n5), (0 + m6)) (fun _ => rfl) ?_
  have pt10 : ∀ j10, j10 ≤ k → ∀ (y1 : Int) (G2 : Nat → Nat → Int), (0 ≤ y1 ∧ y1 ≤ (t : Int)) → (∀ k, k < n → G2 c7 k = lf (gd A W ev cm (da * pe)) rows y1.toNat k) → (∀ q k, q < Y.2.2 → ¬ (q = c7 ∧ k < n) → G2 q k = L2 q k) → yi_D zi_Ms d zi_m169 j10 (10, [(1, .inl y1), (0, .inr (.inr (some 10)))], [], (I1, G2, R3, Y4), (0 + n5), (0 + m6)) (fun r => ∃ I' L' R' Y' nc ns c', r = (none, (I', L', R', Y'), nc, ns) ∧ rz_H I R Y I' R' Y' 58 n c c' ∧ (∀ k, k < n → L' c' k = lf (gd A W ev cm (da * pe)) rows t k) ∧ (∀ q k, q < Y.2.2 → ¬ (q = c' ∧ k < n) → L' q k = L q k)) := by
    intro j10
    induction j10 with
    | zero => intros; exact yi_D_0
    | succ j10 ih10 =>
    intro hk10 y1 G2 hy1 hg2 hm2
    refine yi_D_run1 1 (12, [(1, .inl y1), (0, .inr (.inr (some 10)))], [.inr (.inr (some 10)), .inl y1], (I1, G2, R3, Y4), (0 + n5), (0 + m6)) (fun _ => rfl) ?_
    have r21 : R3 10 6 = some 50 := by rw [hfR12 10 6 (by omega), (at_r hA (j := 6) rfl)]
    refine yi_D_gr (v := some 50) rfl rfl rfl r21 (fun _ => ?_)
    have r22 : I1 50 6 = (t : Int) := by rw [hfI11 50 6 (by omega), ht]
    refine yi_D_gi (v := (t : Int)) rfl rfl rfl r22 (fun _ => ?_)
    by_cases h23 : (t : Int) ≤ y1
    · refine yi_D_if2 true rfl (yi_ge_t h23) ?_
      refine yi_D_retv rfl ?_
      have hn2 : y1.toNat = t := by omega
      exact ⟨_, _, _, _, _, _, c7, rfl, hz8, fun k hk => by rw [← hn2]; exact hg2 k hk, fun q k hq h => by rw [hm2 q k hq h]; exact hM10 q k hq h⟩
    · refine yi_D_if2 false rfl (yi_ge_f h23) ?_
      refine yi_D_run 1 (22, [(1, .inl y1), (0, .inr (.inr (some 10)))], [.inr (.inr (some 10))], (I1, G2, R3, Y4), (0 + n5), (0 + m6)) (fun _ => rfl) ?_
      have r24 : R3 10 9 = some 58 := by rw [hfR12 10 9 (by omega), (at_r hA (j := 9) rfl)]
      refine yi_D_gr (v := some 58) rfl rfl rfl r24 (fun _ => ?_)
      refine yi_D_run 2 (27, [(1, .inl y1), (0, .inr (.inr (some 10)))], [.inl y1, .inr (.inr (some 10)), .inr (.inr (some 58))], (I1, G2, R3, Y4), (0 + n5), (0 + m6)) (fun _ => rfl) ?_
      obtain ⟨sy, sf, sc, s1, s2, s3, s4, s5, s6, s7, s8⟩ := hS y1.toNat (by omega)
      have s9 : R3 51 y1.toNat = some sy := by rw [hfR12 51 _ (by omega)]; exact s1
      have s10 : R3 sy 3 = some sf := by rw [hfR12 sy 3 (by omega)]; exact s4
      have w7 : rw_S I1 R3 Y4 sf sc n := rw_S_t s5 (hfI11 sf 1 ⟨s5.1.2.2.1, by omega⟩) (hfR12 sf 0 ⟨s5.1.2.2.1, by omega⟩) hNN14 hfY13
      have w8 := s5.1.2.2.2.1
      have w9 : I1 50 6 = (t : Int) := by rw [hfI11 50 6 (by omega)]; exact ht
      refine yi_D_callv rfl (p_sayingRow hA3 w9 ht2 (by omega) s9 s2 s10) ?_
      rintro _ rfl
      show yi_D zi_Ms d zi_m169 j10 (30, [(1, .inl y1), (0, .inr (.inr (some 10)))], [.inr (.inr (some sf)), .inr (.inr (some 58))], (I1, G2, R3, Y4), (0 + n5), (0 + m6)) _
      refine yi_D_callv rfl (p_keep hf3 w7) ?_
      rintro _ ⟨L25, rfl, k126, k227⟩
      have hkp : ∀ k, k < n → L25 c7 k = lf (gd A W ev cm (da * pe)) rows (y1.toNat + 1) k := fun k hk => by rw [k126 k hk, hg2 k hk, hm2 sc k w8 (by omega), hM10 sc k w8 (by omega), s6 k hk]; rfl
      have hkf : ∀ q k, q < Y.2.2 → ¬ (q = c7 ∧ k < n) → L25 q k = L2 q k := fun q k hq h => by rw [k227 q k h]; exact hm2 q k hq h
      show yi_D zi_Ms d zi_m169 j10 (33, [(1, .inl y1), (0, .inr (.inr (some 10)))], [], (I1, L25, R3, Y4), (0 + n5), (0 + m6)) _
      refine yi_D_iinc [(1, .inl (y1 + 1)), (0, .inr (.inr (some 10)))] rfl rfl rfl (by rw [show yi_w (y1 + 1) = y1 + 1 from (yi_wn (by omega) (by omega)).trans (by omega)]; rfl) ?_
      refine yi_D_run 1 (10, [(1, .inl (y1 + 1)), (0, .inr (.inr (some 10)))], [], (I1, L25, R3, Y4), (0 + n5), (0 + m6)) (fun _ => rfl) ?_
      exact yi_D_mono (ih10 (by omega) (y1 + 1) L25 (by omega) (fun k hk => by rw [show (y1 + 1).toNat = y1.toNat + 1 by omega]; exact hkp k hk) hkf) (by omega)
  exact pt10 k (Nat.le_refl _) 0 L2 (by omega) (fun k hk => by rw [hL9 k hk]; rfl) (fun _ _ _ _ => rfl)
theorem fm_x : ∀ n : Nat, n < 101 → 0 ≤ yi_ixor n 16 := by decide +kernel
theorem sy_T_t {R R' : Nat → Nat → Option Nat} {Y Y' : (Nat → Nat) × (Nat → Nat) × Nat} {p : Nat} (h : sy_T R Y p) (hR : ∀ k, k < 5 → R' p k = R p k) (hN : Y.2.2 ≤ Y'.2.2) (hY : ∀ q, q < Y.2.2 → Y'.1 q = Y.1 q ∧ Y'.2.1 q = Y.2.1 q) : sy_T R' Y' p := by
  obtain ⟨⟨a1, a2, a3, a4, a5, a6, a7, a8⟩, ⟨b0, b1, b2, b3, b4⟩, c1, c2, c3, c4, c5⟩ := h
  refine ⟨⟨a1, by omega, ?_, ?_, ?_, ?_, ?_, ?_⟩, ⟨(hR 0 (by omega)).trans b0, (hR 1 (by omega)).trans b1, (hR 2 (by omega)).trans b2, (hR 3 (by omega)).trans b3, (hR 4 (by omega)).trans b4⟩, ?_, ?_, ?_, ?_, ?_⟩
  · rw [(hY p (by omega)).1]; exact a3
  · rw [(hY (p + 1) (by omega)).1]; exact a4
  · rw [(hY (p + 2) (by omega)).1]; exact a5
  · rw [(hY (p + 3) (by omega)).1]; exact a6
  · rw [(hY (p + 4) (by omega)).1]; exact a7
  · rw [(hY (p + 5) (by omega)).1]; exact a8
  · rw [(hY (p + 1) (by omega)).2]; exact c1
  · rw [(hY (p + 2) (by omega)).2]; exact c2
  · rw [(hY (p + 3) (by omega)).2]; exact c3
  · rw [(hY (p + 4) (by omega)).2]; exact c4
  · rw [(hY (p + 5) (by omega)).2]; exact c5
/-- what a story holds is what another one held -/
def sy_D (I : Nat → Nat → Int) (R : Nat → Nat → Option Nat) (I' : Nat → Nat → Int) (R' : Nat → Nat → Option Nat) (p s : Nat) : Prop := (I' p 6 = I s 6 ∧ I' p 7 = I s 7 ∧ I' p 8 = I s 8 ∧ R' p 5 = R s 5) ∧ (∀ k, k < 12 → R' (p + 1) k = R (s + 1) k) ∧ (∀ k, k < 5 → I' (p + 2) k = I (s + 2) k) ∧ (∀ k, k < 24 → I' (p + 3) k = I (s + 3) k) ∧ (∀ k, k < 20 → I' (p + 4) k = I (s + 4) k ∧ I' (p + 5) k = I (s + 5) k)
theorem p_floorMod {d : Nat} {I L : Nat → Nat → Int} {R : Nat → Nat → Option Nat} {Y : (Nat → Nat) × (Nat → Nat) × Nat} {x : Int} (hx : 0 ≤ x ∧ x ≤ 100) : yi_P zi_Ms d 319 [.inl x, .inl 16] (I, L, R, Y) (fun r => r = (some (.inl (x % 16)), (I, L, R, Y), 0, 0)) := by
  refine yi_P_of (M := zi_m319) rfl (fun d k => ?_)
  have hxr : 0 ≤ yi_ixor x 16 := by
    obtain ⟨n, rfl⟩ := Int.eq_ofNat_of_zero_le hx.1
    exact fm_x n (by omega)
  show yi_D zi_Ms d zi_m319 k (0, [(0, .inl x), (1, .inl 16)], [], (I, L, R, Y), 0, 0) _
  refine yi_D_run 2 (2, [(0, .inl x), (1, .inl 16)], [.inl 16, .inl x], (I, L, R, Y), 0, 0) (fun _ => rfl) ?_
  refine yi_D_irem rfl (by omega) (x % 16) (yi_md (by omega) rfl) ?_
  refine yi_D_run 4 (7, [(2, .inl (x % 16)), (0, .inl x), (1, .inl 16)], [.inl (yi_ixor x 16)], (I, L, R, Y), 0, 0) (fun _ => rfl) ?_
  have h1 : 0 ≤ (yi_ixor x 16) := by omega
  refine yi_D_if1 true rfl (yi_ge_t h1) ?_
  refine yi_D_run 1 (19, [(2, .inl (x % 16)), (0, .inl x), (1, .inl 16)], [.inl (x % 16)], (I, L, R, Y), 0, 0) (fun _ => rfl) ?_
  refine yi_D_reti rfl ?_
  rfl
theorem p_remember {d : Nat} {I L : Nat → Nat → Int} {R : Nat → Nat → Option Nat} {Y : (Nat → Nat) × (Nat → Nat) × Nat} (hA : at_T R Y) {ps u at0 : Nat} (h17 : I 10 17 = (ps : Int)) (h18 : I 10 18 = (u : Int)) (hps : ps < 16) (hu : u ≤ 16) (hat : at0 = (ps + u) % 16) (hpast : ∀ pb, R 56 at0 = some pb → sy_T R Y pb ∧ 110 ≤ pb) : yi_P zi_Ms d 170 [.inr (.inr (some 10))] (I, L, R, Y) (fun r => ∃ I' L' R' Y' nc ns pb, r = (none, (I', L', R', Y'), nc, ns) ∧ R' 56 at0 = some pb ∧ sy_T R' Y' pb ∧ sy_D I R I' R' pb 50 ∧ ((R 56 at0 = some pb ∧ Y' = Y) ∨ (R 56 at0 = none ∧ pb = Y.2.2 ∧ Y'.2.2 = Y.2.2 + 6)) ∧ (I' 10 18 = (if u < 16 then (u : Int) + 1 else 16) ∧ I' 10 17 = (if u < 16 then (ps : Int) else ((ps : Int) + 1) % 16)) ∧ (∀ q k, q < Y.2.2 → ¬ (pb ≤ q ∧ q ≤ pb + 5) → (¬ (q = 10 ∧ (k = 17 ∨ k = 18)) → I' q k = I q k) ∧ (¬ (q = 56 ∧ k = at0) → R' q k = R q k)) ∧ (∀ q k, q < Y.2.2 → L' q k = L q k) ∧ (Y.2.2 ≤ Y'.2.2 ∧ ∀ q, q < Y.2.2 → Y'.1 q = Y.1 q ∧ Y'.2.1 q = Y.2.1 q)) := by
  refine yi_P_of (M := zi_m170) rfl (fun d k => ?_)
  have hNA := hA.2.2.2
  show yi_D zi_Ms d zi_m170 k (0, [(0, .inr (.inr (some 10)))], [], (I, L, R, Y), 0, 0) _
  refine yi_D_run 1 (1, [(0, .inr (.inr (some 10)))], [.inr (.inr (some 10))], (I, L, R, Y), 0, 0) (fun _ => rfl) ?_
  refine yi_D_gi (v := (ps : Int)) rfl rfl rfl h17 (fun _ => ?_)
  refine yi_D_run 1 (5, [(0, .inr (.inr (some 10)))], [.inr (.inr (some 10)), .inl (ps : Int)], (I, L, R, Y), 0, 0) (fun _ => rfl) ?_
  refine yi_D_gi (v := (u : Int)) rfl rfl rfl h18 (fun _ => ?_)
  refine yi_D_iadd rfl ((ps : Int) + (u : Int)) (yi_wn (by omega) (by omega)) ?_
  refine yi_D_run 1 (11, [(0, .inr (.inr (some 10)))], [.inl 16, .inl ((ps : Int) + (u : Int))], (I, L, R, Y), 0, 0) (fun _ => rfl) ?_
  refine yi_D_calls rfl (p_floorMod ⟨by omega, by omega⟩) ?_
  rintro _ rfl
  rw [show ((ps : Int) + (u : Int)) % 16 = (at0 : Int) by omega]
  show yi_D zi_Ms d zi_m170 k (14, [(0, .inr (.inr (some 10)))], [.inl (at0 : Int)], (I, L, R, Y), 0, 0) _
  refine yi_D_run 2 (16, [(1, .inl (at0 : Int)), (0, .inr (.inr (some 10)))], [.inr (.inr (some 10))], (I, L, R, Y), 0, 0) (fun _ => rfl) ?_
  refine yi_D_gi (v := (u : Int)) rfl rfl rfl h18 (fun _ => ?_)
  refine yi_D_run 1 (21, [(1, .inl (at0 : Int)), (0, .inr (.inr (some 10)))], [.inl 16, .inl (u : Int)], (I, L, R, Y), 0, 0) (fun _ => rfl) ?_
  by_cases h1 : 16 ≤ (u : Int)
  · refine yi_D_if2 true rfl (yi_ge_t h1) ?_
    refine yi_D_run 2 (39, [(1, .inl (at0 : Int)), (0, .inr (.inr (some 10)))], [.inr (.inr (some 10)), .inr (.inr (some 10))], (I, L, R, Y), 0, 0) (fun _ => rfl) ?_
    refine yi_D_gi (v := (ps : Int)) rfl rfl rfl h17 (fun _ => ?_)
    refine yi_D_run 1 (43, [(1, .inl (at0 : Int)), (0, .inr (.inr (some 10)))], [.inl 1, .inl (ps : Int), .inr (.inr (some 10))], (I, L, R, Y), 0, 0) (fun _ => rfl) ?_
    refine yi_D_iadd rfl ((ps : Int) + 1) (yi_wn (by omega) (by omega)) ?_
    refine yi_D_run 1 (46, [(1, .inl (at0 : Int)), (0, .inr (.inr (some 10)))], [.inl 16, .inl ((ps : Int) + 1), .inr (.inr (some 10))], (I, L, R, Y), 0, 0) (fun _ => rfl) ?_
    refine yi_D_calls rfl (p_floorMod ⟨by omega, by omega⟩) ?_
    rintro _ rfl
    show yi_D zi_Ms d zi_m170 k (49, [(1, .inl (at0 : Int)), (0, .inr (.inr (some 10)))], [.inl (((ps : Int) + 1) % 16), .inr (.inr (some 10))], (I, L, R, Y), 0, 0) _
    refine yi_D_pi rfl (fun _ => ?_)
    generalize w3 : yi_u I 10 17 (((ps : Int) + 1) % 16) = I2
    refine yi_D_run 1 (53, [(1, .inl (at0 : Int)), (0, .inr (.inr (some 10)))], [.inr (.inr (some 10))], (I2, L, R, Y), 0, 0) (fun _ => rfl) ?_
    refine yi_D_gr (v := some 56) rfl rfl rfl (at_r hA (j := 7) rfl) (fun _ => ?_)
    refine yi_D_run 1 (57, [(1, .inl (at0 : Int)), (0, .inr (.inr (some 10)))], [.inl (at0 : Int), .inr (.inr (some 56))], (I2, L, R, Y), 0, 0) (fun _ => rfl) ?_
    refine yi_D_rl (v := R 56 ((at0 : Int).toNat)) rfl rfl rfl (fun _ _ => ?_)
    cases hq4 : R 56 ((at0 : Int).toNat) with
    | none =>
      refine yi_D_run 2 (60, [(2, .inr (.inr none)), (1, .inl (at0 : Int)), (0, .inr (.inr (some 10)))], [.inr (.inr none)], (I2, L, R, Y), 0, 0) (fun _ => rfl) ?_
      refine yi_D_nnx rfl ?_
      refine yi_D_new3 rfl (fun q6 I7 L8 R9 Y10 m11 mk12 mn13 ml14 my15 => ?_)
      obtain ⟨k16, k17, k18, k19, k20, k21⟩ := mk12
      have q6q : q6 = Y.2.2 := k16
      have q6n := k21
      refine yi_D_run 1 (67, [(2, .inr (.inr none)), (1, .inl (at0 : Int)), (0, .inr (.inr (some 10)))], [.inr (.inr (some q6)), .inr (.inr (some q6))], (I7, L8, R9, Y10), (0 + 1), m11) (fun _ => rfl) ?_
      refine yi_D_callp rfl rfl (p_initStory (by omega) q6n my15) ?_
      rintro _ ⟨I22, L23, R24, Y25, n26, m27, rfl, hT28, f129, f230, f331, f432⟩
      have fI33 : ∀ p k, p < q6 → I22 p k = I7 p k := fun p k h => (f129 p k h).1
      have fL34 : ∀ p k, p < q6 → L23 p k = L8 p k := fun p k h => (f129 p k h).2.1
      have fR35 : ∀ p k, p < q6 → R24 p k = R9 p k := fun p k h => (f129 p k h).2.2
      have hN136 := hT28.1.2.1
      show yi_D zi_Ms d zi_m170 k (70, [(2, .inr (.inr none)), (1, .inl (at0 : Int)), (0, .inr (.inr (some 10)))], [.inr (.inr (some q6))], (I22, L23, R24, Y25), ((0 + 1) + n26), (m11 + m27)) _
      refine yi_D_run 2 (72, [(2, .inr (.inr (some q6))), (1, .inl (at0 : Int)), (0, .inr (.inr (some 10)))], [.inr (.inr (some 10))], (I22, L23, R24, Y25), ((0 + 1) + n26), (m11 + m27)) (fun _ => rfl) ?_
      have r37 : R24 10 7 = some 56 := by rw [fR35 10 7 (by omega), (fun p k hp => (k17 p k hp).2.2) 10 7 (by omega), (at_r hA (j := 7) rfl)]
      refine yi_D_gr (v := some 56) rfl rfl rfl r37 (fun _ => ?_)
      refine yi_D_run 2 (77, [(2, .inr (.inr (some q6))), (1, .inl (at0 : Int)), (0, .inr (.inr (some 10)))], [.inr (.inr (some q6)), .inl (at0 : Int), .inr (.inr (some 56))], (I22, L23, R24, Y25), ((0 + 1) + n26), (m11 + m27)) (fun _ => rfl) ?_
      refine yi_D_asw rfl (fun _ _ => ?_)
      generalize w39 : cl_u R24 56 ((at0 : Int).toNat) (some q6) = R38
      refine yi_D_run 2 (80, [(2, .inr (.inr (some q6))), (1, .inl (at0 : Int)), (0, .inr (.inr (some 10)))], [.inr (.inr (some 10)), .inr (.inr (some q6))], (I22, L23, R38, Y25), ((0 + 1) + n26), (m11 + m27)) (fun _ => rfl) ?_
      have r40 : R38 10 6 = some 50 := by rw [← w39, cl_u_ne _ _ (by omega), fR35 10 6 (by omega), (fun p k hp => (k17 p k hp).2.2) 10 6 (by omega), (at_r hA (j := 6) rfl)]
      refine yi_D_gr (v := some 50) rfl rfl rfl r40 (fun _ => ?_)
      have hTb : sy_T R38 Y25 q6 := sy_T_t hT28 (fun k hk => by rw [← w39, cl_u_ne _ _ (by omega)]) (Nat.le_refl _) (fun _ _ => ⟨rfl, rfl⟩)
      have hTb1 := hTb.1.1
      have hTb2 := hTb.1.2.1
      have hT5 : sy_T R38 Y25 50 := sy_T_t (sy_T_at hA) (fun k hk => by rw [← w39, cl_u_ne _ _ (by omega), fR35 50 k (by omega), (fun p k hp => (k17 p k hp).2.2) 50 k (by omega)]) (by omega) (fun q hq => by rw [(f331 q (by omega)).1, ((fun p hp => k19 p hp) q (by omega)).1, (f331 q (by omega)).2, ((fun p hp => k19 p hp) q (by omega)).2]; exact ⟨rfl, rfl⟩)
      refine yi_D_callv rfl (p_storyCopy hTb hT5 (by omega)) ?_
      rintro _ ⟨I41, R42, rfl, hC43⟩
      show yi_D zi_Ms d zi_m170 k (86, [(2, .inr (.inr (some q6))), (1, .inl (at0 : Int)), (0, .inr (.inr (some 10)))], [], (I41, L23, R42, Y25), ((0 + 1) + n26), (m11 + m27)) _
      refine yi_D_retv rfl ?_
      refine ⟨_, _, _, _, _, _, q6, rfl, by rw [(hC43.2.2.2.2.2.1 56 at0 (by omega)).2, ← w39]; exact cl_u_eq .., sy_T_t hTb (hC43.2.2.2.2.2.2) (Nat.le_refl _) (fun _ _ => ⟨rfl, rfl⟩), ⟨⟨by rw [hC43.1.1, fI33 50 6 (by omega), (fun p k hp => (k17 p k hp).1) 50 6 (by omega), ← w3, yi_u_ne _ _ (by omega)], by rw [hC43.1.2.1, fI33 50 7 (by omega), (fun p k hp => (k17 p k hp).1) 50 7 (by omega), ← w3, yi_u_ne _ _ (by omega)], by rw [hC43.1.2.2.1, fI33 50 8 (by omega), (fun p k hp => (k17 p k hp).1) 50 8 (by omega), ← w3, yi_u_ne _ _ (by omega)], by rw [hC43.1.2.2.2, ← w39, cl_u_ne _ _ (by omega), fR35 50 5 (by omega), (fun p k hp => (k17 p k hp).2.2) 50 5 (by omega)]⟩, fun k hk => by rw [hC43.2.1 k hk, ← w39, cl_u_ne _ _ (by omega), fR35 (50 + 1) k (by omega), (fun p k hp => (k17 p k hp).2.2) (50 + 1) k (by omega)], fun k hk => by rw [hC43.2.2.1 k hk, fI33 (50 + 2) k (by omega), (fun p k hp => (k17 p k hp).1) (50 + 2) k (by omega), ← w3, yi_u_ne _ _ (by omega)], fun k hk => by rw [hC43.2.2.2.1 k hk, fI33 (50 + 3) k (by omega), (fun p k hp => (k17 p k hp).1) (50 + 3) k (by omega), ← w3, yi_u_ne _ _ (by omega)], fun k hk => ⟨by rw [(hC43.2.2.2.2.1 k hk).1, fI33 (50 + 4) k (by omega), (fun p k hp => (k17 p k hp).1) (50 + 4) k (by omega), ← w3, yi_u_ne _ _ (by omega)], by rw [(hC43.2.2.2.2.1 k hk).2, fI33 (50 + 5) k (by omega), (fun p k hp => (k17 p k hp).1) (50 + 5) k (by omega), ← w3, yi_u_ne _ _ (by omega)]⟩⟩, Or.inr ⟨hq4, by omega, by omega⟩, ⟨by rw [(hC43.2.2.2.2.2.1 10 18 (by omega)).1, fI33 10 18 (by omega), (fun p k hp => (k17 p k hp).1) 10 18 (by omega), ← w3, yi_u_ne _ _ (by omega), h18, if_neg (by omega)]; omega, by rw [(hC43.2.2.2.2.2.1 10 17 (by omega)).1, fI33 10 17 (by omega), (fun p k hp => (k17 p k hp).1) 10 17 (by omega), ← w3, yi_u_eq, if_neg (by omega)]⟩, fun q k hq h => ⟨fun h2 => by rw [(hC43.2.2.2.2.2.1 q k h).1, fI33 q k (by omega), (fun p k hp => (k17 p k hp).1) q k (by omega), ← w3, yi_u_ne _ _ (by omega)], fun h2 => by rw [(hC43.2.2.2.2.2.1 q k h).2, ← w39, cl_u_ne _ _ (by omega), fR35 q k (by omega), (fun p k hp => (k17 p k hp).2.2) q k (by omega)]⟩, fun q k hq => by rw [fL34 q k (by omega), (fun p k hp => (k17 p k hp).2.1) q k (by omega)], ⟨by omega, fun q hq => by rw [(f331 q (by omega)).1, ((fun p hp => k19 p hp) q (by omega)).1, (f331 q (by omega)).2, ((fun p hp => k19 p hp) q (by omega)).2]; exact ⟨rfl, rfl⟩⟩⟩
    | some q5 =>
      obtain ⟨hTb, hdb⟩ := hpast q5 hq4
      have hTb1 := hTb.1.1
      have hTb2 := hTb.1.2.1
      refine yi_D_run 2 (60, [(2, .inr (.inr (some q5))), (1, .inl (at0 : Int)), (0, .inr (.inr (some 10)))], [.inr (.inr (some q5))], (I2, L, R, Y), 0, 0) (fun _ => rfl) ?_
      refine yi_D_nsx rfl ?_
      refine yi_D_run 2 (80, [(2, .inr (.inr (some q5))), (1, .inl (at0 : Int)), (0, .inr (.inr (some 10)))], [.inr (.inr (some 10)), .inr (.inr (some q5))], (I2, L, R, Y), 0, 0) (fun _ => rfl) ?_
      refine yi_D_gr (v := some 50) rfl rfl rfl (at_r hA (j := 6) rfl) (fun _ => ?_)
      have hT5 : sy_T R Y 50 := sy_T_at hA
      refine yi_D_callv rfl (p_storyCopy hTb hT5 (by omega)) ?_
      rintro _ ⟨I44, R45, rfl, hC46⟩
      show yi_D zi_Ms d zi_m170 k (86, [(2, .inr (.inr (some q5))), (1, .inl (at0 : Int)), (0, .inr (.inr (some 10)))], [], (I44, L, R45, Y), 0, 0) _
      refine yi_D_retv rfl ?_
      refine ⟨_, _, _, _, _, _, q5, rfl, by rw [(hC46.2.2.2.2.2.1 56 at0 (by omega)).2]; exact hq4, sy_T_t hTb (hC46.2.2.2.2.2.2) (Nat.le_refl _) (fun _ _ => ⟨rfl, rfl⟩), ⟨⟨by rw [hC46.1.1, ← w3, yi_u_ne _ _ (by omega)], by rw [hC46.1.2.1, ← w3, yi_u_ne _ _ (by omega)], by rw [hC46.1.2.2.1, ← w3, yi_u_ne _ _ (by omega)], by rw [hC46.1.2.2.2]⟩, fun k hk => by rw [hC46.2.1 k hk], fun k hk => by rw [hC46.2.2.1 k hk, ← w3, yi_u_ne _ _ (by omega)], fun k hk => by rw [hC46.2.2.2.1 k hk, ← w3, yi_u_ne _ _ (by omega)], fun k hk => ⟨by rw [(hC46.2.2.2.2.1 k hk).1, ← w3, yi_u_ne _ _ (by omega)], by rw [(hC46.2.2.2.2.1 k hk).2, ← w3, yi_u_ne _ _ (by omega)]⟩⟩, Or.inl ⟨hq4, rfl⟩, ⟨by rw [(hC46.2.2.2.2.2.1 10 18 (by omega)).1, ← w3, yi_u_ne _ _ (by omega), h18, if_neg (by omega)]; omega, by rw [(hC46.2.2.2.2.2.1 10 17 (by omega)).1, ← w3, yi_u_eq, if_neg (by omega)]⟩, fun q k hq h => ⟨fun h2 => by rw [(hC46.2.2.2.2.2.1 q k h).1, ← w3, yi_u_ne _ _ (by omega)], fun h2 => by rw [(hC46.2.2.2.2.2.1 q k h).2]⟩, fun q k hq => rfl, ⟨Nat.le_refl _, fun _ _ => ⟨rfl, rfl⟩⟩⟩
  · refine yi_D_if2 false rfl (yi_ge_f h1) ?_
    refine yi_D_run 2 (26, [(1, .inl (at0 : Int)), (0, .inr (.inr (some 10)))], [.inr (.inr (some 10)), .inr (.inr (some 10))], (I, L, R, Y), 0, 0) (fun _ => rfl) ?_
    refine yi_D_gi (v := (u : Int)) rfl rfl rfl h18 (fun _ => ?_)
    refine yi_D_run 1 (30, [(1, .inl (at0 : Int)), (0, .inr (.inr (some 10)))], [.inl 1, .inl (u : Int), .inr (.inr (some 10))], (I, L, R, Y), 0, 0) (fun _ => rfl) ?_
    refine yi_D_iadd rfl ((u : Int) + 1) (yi_wn (by omega) (by omega)) ?_
    refine yi_D_pi rfl (fun _ => ?_)
    generalize w48 : yi_u I 10 18 ((u : Int) + 1) = I47
    refine yi_D_run 2 (53, [(1, .inl (at0 : Int)), (0, .inr (.inr (some 10)))], [.inr (.inr (some 10))], (I47, L, R, Y), 0, 0) (fun _ => rfl) ?_
    refine yi_D_gr (v := some 56) rfl rfl rfl (at_r hA (j := 7) rfl) (fun _ => ?_)
    refine yi_D_run 1 (57, [(1, .inl (at0 : Int)), (0, .inr (.inr (some 10)))], [.inl (at0 : Int), .inr (.inr (some 56))], (I47, L, R, Y), 0, 0) (fun _ => rfl) ?_
    refine yi_D_rl (v := R 56 ((at0 : Int).toNat)) rfl rfl rfl (fun _ _ => ?_)
    cases hq49 : R 56 ((at0 : Int).toNat) with
    | none =>
      refine yi_D_run 2 (60, [(2, .inr (.inr none)), (1, .inl (at0 : Int)), (0, .inr (.inr (some 10)))], [.inr (.inr none)], (I47, L, R, Y), 0, 0) (fun _ => rfl) ?_
      refine yi_D_nnx rfl ?_
      refine yi_D_new3 rfl (fun q51 I52 L53 R54 Y55 m56 mk57 mn58 ml59 my60 => ?_)
      obtain ⟨k61, k62, k63, k64, k65, k66⟩ := mk57
      have q51q : q51 = Y.2.2 := k61
      have q51n := k66
      refine yi_D_run 1 (67, [(2, .inr (.inr none)), (1, .inl (at0 : Int)), (0, .inr (.inr (some 10)))], [.inr (.inr (some q51)), .inr (.inr (some q51))], (I52, L53, R54, Y55), (0 + 1), m56) (fun _ => rfl) ?_
      refine yi_D_callp rfl rfl (p_initStory (by omega) q51n my60) ?_
      rintro _ ⟨I67, L68, R69, Y70, n71, m72, rfl, hT73, f174, f275, f376, f477⟩
      have fI78 : ∀ p k, p < q51 → I67 p k = I52 p k := fun p k h => (f174 p k h).1
      have fL79 : ∀ p k, p < q51 → L68 p k = L53 p k := fun p k h => (f174 p k h).2.1
      have fR80 : ∀ p k, p < q51 → R69 p k = R54 p k := fun p k h => (f174 p k h).2.2
      have hN181 := hT73.1.2.1
      show yi_D zi_Ms d zi_m170 k (70, [(2, .inr (.inr none)), (1, .inl (at0 : Int)), (0, .inr (.inr (some 10)))], [.inr (.inr (some q51))], (I67, L68, R69, Y70), ((0 + 1) + n71), (m56 + m72)) _
      refine yi_D_run 2 (72, [(2, .inr (.inr (some q51))), (1, .inl (at0 : Int)), (0, .inr (.inr (some 10)))], [.inr (.inr (some 10))], (I67, L68, R69, Y70), ((0 + 1) + n71), (m56 + m72)) (fun _ => rfl) ?_
      have r82 : R69 10 7 = some 56 := by rw [fR80 10 7 (by omega), (fun p k hp => (k62 p k hp).2.2) 10 7 (by omega), (at_r hA (j := 7) rfl)]
      refine yi_D_gr (v := some 56) rfl rfl rfl r82 (fun _ => ?_)
      refine yi_D_run 2 (77, [(2, .inr (.inr (some q51))), (1, .inl (at0 : Int)), (0, .inr (.inr (some 10)))], [.inr (.inr (some q51)), .inl (at0 : Int), .inr (.inr (some 56))], (I67, L68, R69, Y70), ((0 + 1) + n71), (m56 + m72)) (fun _ => rfl) ?_
      refine yi_D_asw rfl (fun _ _ => ?_)
      generalize w84 : cl_u R69 56 ((at0 : Int).toNat) (some q51) = R83
      refine yi_D_run 2 (80, [(2, .inr (.inr (some q51))), (1, .inl (at0 : Int)), (0, .inr (.inr (some 10)))], [.inr (.inr (some 10)), .inr (.inr (some q51))], (I67, L68, R83, Y70), ((0 + 1) + n71), (m56 + m72)) (fun _ => rfl) ?_
      have r85 : R83 10 6 = some 50 := by rw [← w84, cl_u_ne _ _ (by omega), fR80 10 6 (by omega), (fun p k hp => (k62 p k hp).2.2) 10 6 (by omega), (at_r hA (j := 6) rfl)]
      refine yi_D_gr (v := some 50) rfl rfl rfl r85 (fun _ => ?_)
      have hTb : sy_T R83 Y70 q51 := sy_T_t hT73 (fun k hk => by rw [← w84, cl_u_ne _ _ (by omega)]) (Nat.le_refl _) (fun _ _ => ⟨rfl, rfl⟩)
      have hTb1 := hTb.1.1
      have hTb2 := hTb.1.2.1
      have hT5 : sy_T R83 Y70 50 := sy_T_t (sy_T_at hA) (fun k hk => by rw [← w84, cl_u_ne _ _ (by omega), fR80 50 k (by omega), (fun p k hp => (k62 p k hp).2.2) 50 k (by omega)]) (by omega) (fun q hq => by rw [(f376 q (by omega)).1, ((fun p hp => k64 p hp) q (by omega)).1, (f376 q (by omega)).2, ((fun p hp => k64 p hp) q (by omega)).2]; exact ⟨rfl, rfl⟩)
      refine yi_D_callv rfl (p_storyCopy hTb hT5 (by omega)) ?_
      rintro _ ⟨I86, R87, rfl, hC88⟩
      show yi_D zi_Ms d zi_m170 k (86, [(2, .inr (.inr (some q51))), (1, .inl (at0 : Int)), (0, .inr (.inr (some 10)))], [], (I86, L68, R87, Y70), ((0 + 1) + n71), (m56 + m72)) _
      refine yi_D_retv rfl ?_
      refine ⟨_, _, _, _, _, _, q51, rfl, by rw [(hC88.2.2.2.2.2.1 56 at0 (by omega)).2, ← w84]; exact cl_u_eq .., sy_T_t hTb (hC88.2.2.2.2.2.2) (Nat.le_refl _) (fun _ _ => ⟨rfl, rfl⟩), ⟨⟨by rw [hC88.1.1, fI78 50 6 (by omega), (fun p k hp => (k62 p k hp).1) 50 6 (by omega), ← w48, yi_u_ne _ _ (by omega)], by rw [hC88.1.2.1, fI78 50 7 (by omega), (fun p k hp => (k62 p k hp).1) 50 7 (by omega), ← w48, yi_u_ne _ _ (by omega)], by rw [hC88.1.2.2.1, fI78 50 8 (by omega), (fun p k hp => (k62 p k hp).1) 50 8 (by omega), ← w48, yi_u_ne _ _ (by omega)], by rw [hC88.1.2.2.2, ← w84, cl_u_ne _ _ (by omega), fR80 50 5 (by omega), (fun p k hp => (k62 p k hp).2.2) 50 5 (by omega)]⟩, fun k hk => by rw [hC88.2.1 k hk, ← w84, cl_u_ne _ _ (by omega), fR80 (50 + 1) k (by omega), (fun p k hp => (k62 p k hp).2.2) (50 + 1) k (by omega)], fun k hk => by rw [hC88.2.2.1 k hk, fI78 (50 + 2) k (by omega), (fun p k hp => (k62 p k hp).1) (50 + 2) k (by omega), ← w48, yi_u_ne _ _ (by omega)], fun k hk => by rw [hC88.2.2.2.1 k hk, fI78 (50 + 3) k (by omega), (fun p k hp => (k62 p k hp).1) (50 + 3) k (by omega), ← w48, yi_u_ne _ _ (by omega)], fun k hk => ⟨by rw [(hC88.2.2.2.2.1 k hk).1, fI78 (50 + 4) k (by omega), (fun p k hp => (k62 p k hp).1) (50 + 4) k (by omega), ← w48, yi_u_ne _ _ (by omega)], by rw [(hC88.2.2.2.2.1 k hk).2, fI78 (50 + 5) k (by omega), (fun p k hp => (k62 p k hp).1) (50 + 5) k (by omega), ← w48, yi_u_ne _ _ (by omega)]⟩⟩, Or.inr ⟨hq49, by omega, by omega⟩, ⟨by rw [(hC88.2.2.2.2.2.1 10 18 (by omega)).1, fI78 10 18 (by omega), (fun p k hp => (k62 p k hp).1) 10 18 (by omega), ← w48, yi_u_eq, if_pos (by omega)], by rw [(hC88.2.2.2.2.2.1 10 17 (by omega)).1, fI78 10 17 (by omega), (fun p k hp => (k62 p k hp).1) 10 17 (by omega), ← w48, yi_u_ne _ _ (by omega), h17, if_pos (by omega)]⟩, fun q k hq h => ⟨fun h2 => by rw [(hC88.2.2.2.2.2.1 q k h).1, fI78 q k (by omega), (fun p k hp => (k62 p k hp).1) q k (by omega), ← w48, yi_u_ne _ _ (by omega)], fun h2 => by rw [(hC88.2.2.2.2.2.1 q k h).2, ← w84, cl_u_ne _ _ (by omega), fR80 q k (by omega), (fun p k hp => (k62 p k hp).2.2) q k (by omega)]⟩, fun q k hq => by rw [fL79 q k (by omega), (fun p k hp => (k62 p k hp).2.1) q k (by omega)], ⟨by omega, fun q hq => by rw [(f376 q (by omega)).1, ((fun p hp => k64 p hp) q (by omega)).1, (f376 q (by omega)).2, ((fun p hp => k64 p hp) q (by omega)).2]; exact ⟨rfl, rfl⟩⟩⟩
    | some q50 =>
      obtain ⟨hTb, hdb⟩ := hpast q50 hq49
      have hTb1 := hTb.1.1
      have hTb2 := hTb.1.2.1
      refine yi_D_run 2 (60, [(2, .inr (.inr (some q50))), (1, .inl (at0 : Int)), (0, .inr (.inr (some 10)))], [.inr (.inr (some q50))], (I47, L, R, Y), 0, 0) (fun _ => rfl) ?_
      refine yi_D_nsx rfl ?_
      refine yi_D_run 2 (80, [(2, .inr (.inr (some q50))), (1, .inl (at0 : Int)), (0, .inr (.inr (some 10)))], [.inr (.inr (some 10)), .inr (.inr (some q50))], (I47, L, R, Y), 0, 0) (fun _ => rfl) ?_
      refine yi_D_gr (v := some 50) rfl rfl rfl (at_r hA (j := 6) rfl) (fun _ => ?_)
      have hT5 : sy_T R Y 50 := sy_T_at hA
      refine yi_D_callv rfl (p_storyCopy hTb hT5 (by omega)) ?_
      rintro _ ⟨I89, R90, rfl, hC91⟩
      show yi_D zi_Ms d zi_m170 k (86, [(2, .inr (.inr (some q50))), (1, .inl (at0 : Int)), (0, .inr (.inr (some 10)))], [], (I89, L, R90, Y), 0, 0) _
      refine yi_D_retv rfl ?_
      refine ⟨_, _, _, _, _, _, q50, rfl, by rw [(hC91.2.2.2.2.2.1 56 at0 (by omega)).2]; exact hq49, sy_T_t hTb (hC91.2.2.2.2.2.2) (Nat.le_refl _) (fun _ _ => ⟨rfl, rfl⟩), ⟨⟨by rw [hC91.1.1, ← w48, yi_u_ne _ _ (by omega)], by rw [hC91.1.2.1, ← w48, yi_u_ne _ _ (by omega)], by rw [hC91.1.2.2.1, ← w48, yi_u_ne _ _ (by omega)], by rw [hC91.1.2.2.2]⟩, fun k hk => by rw [hC91.2.1 k hk], fun k hk => by rw [hC91.2.2.1 k hk, ← w48, yi_u_ne _ _ (by omega)], fun k hk => by rw [hC91.2.2.2.1 k hk, ← w48, yi_u_ne _ _ (by omega)], fun k hk => ⟨by rw [(hC91.2.2.2.2.1 k hk).1, ← w48, yi_u_ne _ _ (by omega)], by rw [(hC91.2.2.2.2.1 k hk).2, ← w48, yi_u_ne _ _ (by omega)]⟩⟩, Or.inl ⟨hq49, rfl⟩, ⟨by rw [(hC91.2.2.2.2.2.1 10 18 (by omega)).1, ← w48, yi_u_eq, if_pos (by omega)], by rw [(hC91.2.2.2.2.2.1 10 17 (by omega)).1, ← w48, yi_u_ne _ _ (by omega), h17, if_pos (by omega)]⟩, fun q k hq h => ⟨fun h2 => by rw [(hC91.2.2.2.2.2.1 q k h).1, ← w48, yi_u_ne _ _ (by omega)], fun h2 => by rw [(hC91.2.2.2.2.2.1 q k h).2]⟩, fun q k hq => rfl, ⟨Nat.le_refl _, fun _ _ => ⟨rfl, rfl⟩⟩⟩
