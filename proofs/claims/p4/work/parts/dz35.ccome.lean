/-! The class: who came. -/
theorem yl_comm (a b : Int) : yi_land a b = yi_land b a := by
  unfold yi_land
  rw [Int64.and_comm]
theorem yl_assoc (a b c : Int) : yi_land (yi_land a b) c = yi_land a (yi_land b c) := by
  unfold yi_land
  rw [Int64.ofInt_toInt, Int64.ofInt_toInt, Int64.and_assoc]
theorem yl_swap (a b c : Int) : yi_land (yi_land a b) c = yi_land (yi_land a c) b := by
  rw [yl_assoc, yl_comm b c, ← yl_assoc]
/-- one came of whom it was not known -/
def cm_u (cm : Nat → Int) (i : Nat) (e : Int) : Nat → Int := fun k => if k = i then e else cm k
theorem gd_lo {A : Nat → Int} {W : Nat → Nat → Int} {ev : Nat} {cm : Nat → Int} {i : Nat} {e : Int} : ∀ P, P ≤ i → gd A W ev (cm_u cm i e) P = gd A W ev cm P
  | 0, _ => rfl
  | P + 1, h => by
    have hu : cm_u cm i e P = cm P := if_neg (by omega)
    funext c
    show (if 0 ≤ cm_u cm i e P then yi_land (gd A W ev (cm_u cm i e) P c) (W (ev * P + (cm_u cm i e P).toNat) c) else gd A W ev (cm_u cm i e) P c) = (if 0 ≤ cm P then yi_land (gd A W ev cm P c) (W (ev * P + (cm P).toNat) c) else gd A W ev cm P c)
    rw [hu, gd_lo P (by omega)]
theorem gd_hi {A : Nat → Int} {W : Nat → Nat → Int} {ev : Nat} {cm : Nat → Int} {i : Nat} {e : Int} (he : 0 ≤ e) (hi : cm i = -1) : ∀ P, i < P → ∀ c, gd A W ev (cm_u cm i e) P c = yi_land (gd A W ev cm P c) (W (ev * i + e.toNat) c)
  | 0, h, _ => absurd h (by omega)
  | P + 1, h, c => by
    show (if 0 ≤ cm_u cm i e P then yi_land (gd A W ev (cm_u cm i e) P c) (W (ev * P + (cm_u cm i e P).toNat) c) else gd A W ev (cm_u cm i e) P c) = yi_land (if 0 ≤ cm P then yi_land (gd A W ev cm P c) (W (ev * P + (cm P).toNat) c) else gd A W ev cm P c) (W (ev * i + e.toNat) c)
    by_cases hc : P = i
    · subst hc
      rw [show cm_u cm P e P = e from if_pos rfl, if_pos he, if_neg (show ¬ 0 ≤ cm P by omega), gd_lo P (Nat.le_refl P)]
    · rw [show cm_u cm i e P = cm P from if_neg hc, gd_hi he hi P (by omega) c]
      by_cases h0 : 0 ≤ cm P
      · rw [if_pos h0, if_pos h0, yl_swap]
      · rw [if_neg h0, if_neg h0]
theorem lf_and {g g' : Nat → Int} {rows : Nat → Nat → Int} {v : Nat → Int} (h : ∀ c, g' c = yi_land (g c) (v c)) : ∀ t c, lf g' rows t c = yi_land (lf g rows t c) (v c)
  | 0, c => h c
  | t + 1, c => by
    show yi_land (lf g' rows t c) (rows t c) = yi_land (yi_land (lf g rows t c) (rows t c)) (v c)
    rw [lf_and h t c, yl_swap]
/-- a story in which one more came -/
def ss_ca (S : ss_T) (pe x : Nat) (e : Int) : ss_T := ((S.1.1, (if ∀ j, j < pe → ¬ cm_u S.2.2.2.2.1 (pe * (S.1.2.1 - 1) + x) e (pe * (S.1.2.1 - 1) + j) = -1 then S.1.2.1 + 1 else S.1.2.1), S.1.2.2), S.2.1, S.2.2.1, S.2.2.2.1, cm_u S.2.2.2.2.1 (pe * (S.1.2.1 - 1) + x) e, S.2.2.2.2.2)
section CAC
variable {I L I' L' : Nat → Nat → Int} {R R' R1 : Nat → Nat → Option Nat} {Y Y' : (Nat → Nat) × (Nat → Nat) × Nat} {pf pf' : Nat → Bool} {n da pe ev pr q c p s u u' x d : Nat} {S S' : ss_T} {A l : ss_R} {W : Nat → ss_R} {U U' : Nat → ss_T} {M : Nat → Option (ss_T × Option ss_R)} {aq aq' : Option ss_R} {e : Int}
theorem pe_in {pe a b i j : Nat} (hi : i < pe) (hj : j < pe) (h : pe * a + i = pe * b + j) : a = b ∧ i = j := by
  have h1 : (pe * a + i) / pe = a := by rw [Nat.mul_add_div (by omega), Nat.div_eq_of_lt hi]; rfl
  have h2 : (pe * b + j) / pe = b := by rw [Nat.mul_add_div (by omega), Nat.div_eq_of_lt hj]; rfl
  have e : a = b := by rw [← h1, ← h2, h]
  subst e
  exact ⟨rfl, by omega⟩
theorem sc_S_ca (h : sc_S I L R Y pf n da pe pr 50 S) (hK : pf_K I L R Y pf I' L R Y pf) (ht : 1 ≤ S.1.2.1 ∧ S.1.2.1 ≤ da) (hx : x < pe) (b : da ≤ 6 ∧ pe ≤ 4 ∧ pr ≤ 5 ∧ S.1.1 ≤ 12 ∧ S.1.2.2 ≤ 20) (e1 : I' 53 (4 * (S.1.2.1 - 1) + x) = e) (e2 : ((∀ j : Nat, j < pe → ¬ I' 53 (4 * (S.1.2.1 - 1) + j) = -1) ∧ I' 50 7 = (S.1.2.1 : Int) + 1) ∨ (¬ (∀ j : Nat, j < pe → ¬ I' 53 (4 * (S.1.2.1 - 1) + j) = -1) ∧ I' 50 7 = (S.1.2.1 : Int))) (f : ∀ q k, ¬ (q = 50 ∧ k = 7) ∧ ¬ (q = 53 ∧ k = 4 * (S.1.2.1 - 1) + x) → I' q k = I q k) : sc_S I' L R Y pf n da pe pr 50 (ss_ca S pe x e) := by
  obtain ⟨h1, ⟨a1, a2, a3⟩, h2, h3, h4, h5⟩ := h
  have hcm : ∀ d q, d < da → q < pe → I' 53 (4 * d + q) = cm_u S.2.2.2.2.1 (pe * (S.1.2.1 - 1) + x) e (pe * d + q) := by
    intro d q hd hq
    by_cases c : d = S.1.2.1 - 1 ∧ q = x
    · obtain ⟨rfl, rfl⟩ := c
      rw [e1]
      exact (if_pos rfl).symm
    · rw [f 53 _ (by omega), show cm_u S.2.2.2.2.1 (pe * (S.1.2.1 - 1) + x) e (pe * d + q) = S.2.2.2.2.1 (pe * d + q) from if_neg (fun hh => c (pe_in hq hx hh))]
      exact h4 d q hd hq
  have hall : (∀ j : Nat, j < pe → ¬ I' 53 (4 * (S.1.2.1 - 1) + j) = -1) ↔ (∀ j, j < pe → ¬ cm_u S.2.2.2.2.1 (pe * (S.1.2.1 - 1) + x) e (pe * (S.1.2.1 - 1) + j) = -1) := by
    constructor
    · intro hh j hj
      rw [← hcm _ j (by omega) hj]
      exact hh j hj
    · intro hh j hj
      rw [hcm _ j (by omega) hj]
      exact hh j hj
  refine ⟨h1, ⟨(f 50 6 (by omega)).trans a1, ?_, (f 50 8 (by omega)).trans a3⟩, fun j hj => (f _ j (by omega)).trans (h2 j hj), fun i hi => ?_, hcm, fun i hi => ⟨(f _ i (by omega)).trans (h5 i hi).1, (f _ i (by omega)).trans (h5 i hi).2⟩⟩
  · show I' 50 7 = (((if ∀ j, j < pe → ¬ cm_u S.2.2.2.2.1 (pe * (S.1.2.1 - 1) + x) e (pe * (S.1.2.1 - 1) + j) = -1 then S.1.2.1 + 1 else S.1.2.1) : Nat) : Int)
    rcases e2 with ⟨g1, g2⟩ | ⟨g1, g2⟩
    · rw [if_pos (hall.1 g1), g2]
      omega
    · rw [if_neg (fun z => g1 (hall.2 z)), g2]
  · obtain ⟨y, y1, y2⟩ := h3 i hi
    exact ⟨y, y1, sy_S_t y2 hK⟩
/-- what is left when one came -/
theorem lf_ca {A : ss_R} {W : Nat → ss_R} {P : Nat} (he : 0 ≤ e) (hi : S.2.2.2.2.1 (pe * (S.1.2.1 - 1) + x) = -1) (hP : pe * (S.1.2.1 - 1) + x < P) (k : Nat) : yi_land (lf (gd A W ev S.2.2.2.2.1 P) S.2.2.1 S.1.1 k) (W (ev * (pe * (S.1.2.1 - 1) + x) + e.toNat) k) = lf (gd A W ev (ss_ca S pe x e).2.2.2.2.1 P) (ss_ca S pe x e).2.2.1 (ss_ca S pe x e).1.1 k := (lf_and (fun c => gd_hi he hi P hP c) S.1.1 k).symm
theorem rw_any_c {f g f' g' : Nat → Int} {n : Nat} (hf : ∀ k, k < n → f k = f' k) (hg : ∀ k, k < n → g k = g' k) : rw_any f g n ↔ rw_any f' g' n := by
  constructor
  · rintro ⟨k, h1, h2⟩
    exact ⟨k, h1, by rw [← hf k h1, ← hg k h1]; exact h2⟩
  · rintro ⟨k, h1, h2⟩
    exact ⟨k, h1, by rw [hf k h1, hg k h1]; exact h2⟩
end CAC
theorem p_setCameI {d : Nat} {I L : Nat → Nat → Int} {R : Nat → Nat → Option Nat} {Y : (Nat → Nat) × (Nat → Nat) × Nat} {p : Nat} (hT : sy_T R Y p) {t n : Nat} {x e : Int} (ht : I p 7 = (t : Int)) (ht2 : 1 ≤ t ∧ t ≤ 6) (h0 : 0 ≤ x) (hx : x < 4) (hn : n ≤ 4) : yi_P zi_Ms d 289 [.inr (.inr (some p)), .inl x, .inl e, .inl (n : Int)] (I, L, R, Y) (fun r => ∃ I', r = (none, (I', L, R, Y), 0, 0) ∧ I' (p + 3) (4 * (t - 1) + x.toNat) = e ∧ (((∀ j : Nat, j < n → ¬ I' (p + 3) (4 * (t - 1) + j) = -1) ∧ I' p 7 = (t : Int) + 1) ∨ (¬ (∀ j : Nat, j < n → ¬ I' (p + 3) (4 * (t - 1) + j) = -1) ∧ I' p 7 = (t : Int))) ∧ ∀ q k, ¬ (q = p ∧ k = 7) ∧ ¬ (q = p + 3 ∧ k = 4 * (t - 1) + x.toNat) → I' q k = I q k) := by
  have z := p_setCame (d := d) (L := L) (x := x.toNat) (e := e) hT ht ht2 (by omega) hn
  rw [show ((x.toNat : Nat) : Int) = x by omega] at z
  exact z
theorem p_come {d : Nat} {I L : Nat → Nat → Int} {R : Nat → Nat → Option Nat} {Y : (Nat → Nat) × (Nat → Nat) × Nat} {pf : Nat → Bool} {n da pe ev pr q c u : Nat} {S : ss_T} {A l : ss_R} {W : Nat → ss_R} {U : Nat → ss_T} {M : Nat → Option (ss_T × Option ss_R)} {aq : Option ss_R} (hW : ca_W I L R Y pf n da pe ev q A W) (hL : ca_L I L R Y pf n c l) (h50 : sc_S I L R Y pf n da pe pr 50 S) (hP : ck_P I L R Y pf n da pe pr u U M) (ha : sa_A I L R Y pf n 50 aq) (hb : da ≤ 6 ∧ pe ≤ 4 ∧ pr ≤ 5 ∧ S.1.1 ≤ 12 ∧ S.1.2.2 ≤ 20) (h17 : ss_ok da (da * pe) ev pr S) {x y : Int} (hl : ∀ k, l k = lf (gd A W ev S.2.2.2.2.1 (da * pe)) S.2.2.1 S.1.1 k) : yi_P zi_Ms d 145 [.inr (.inr (some 10)), .inl x, .inl y] (I, L, R, Y) (fun r => (¬ (((0 ≤ x ∧ x < pe) ∧ (1 ≤ (S.1.2.1 : Int) ∧ (S.1.2.1 : Int) ≤ da) ∧ 0 ≤ y ∧ y < ev) ∧ S.2.2.2.2.1 (pe * (S.1.2.1 - 1) + x.toNat) = -1 ∧ rw_any l (W (ev * (pe * (S.1.2.1 - 1) + x.toNat) + y.toNat)) n) ∧ r = (some (.inl 0), (I, L, R, Y), 0, 0)) ∨ ((((0 ≤ x ∧ x < pe) ∧ (1 ≤ (S.1.2.1 : Int) ∧ (S.1.2.1 : Int) ≤ da) ∧ 0 ≤ y ∧ y < ev) ∧ S.2.2.2.2.1 (pe * (S.1.2.1 - 1) + x.toNat) = -1 ∧ rw_any l (W (ev * (pe * (S.1.2.1 - 1) + x.toNat) + y.toNat)) n) ∧ ∃ I' L' R' Y' nc ns, r = (some (.inl 1), (I', L', R', Y'), nc, ns) ∧ ca_W I' L' R' Y' pf n da pe ev q A W ∧ ca_L I' L' R' Y' pf n c (lf (gd A W ev (ss_ca S pe x.toNat y).2.2.2.2.1 (da * pe)) (ss_ca S pe x.toNat y).2.2.1 (ss_ca S pe x.toNat y).1.1) ∧ sc_S I' L' R' Y' pf n da pe pr 50 (ss_ca S pe x.toNat y) ∧ ck_P I' L' R' Y' pf n da pe pr (us_n u) (us_p u U S) M ∧ sa_A I' L' R' Y' pf n 50 aq)) := by
  refine yi_P_of (M := zi_m145) rfl (fun d k => ?_)
  have hA := hW.1.1
  have hNA := hA.2.2.2
  obtain ⟨h16, hq, hqN, hq3, hda, hpe, hev⟩ := hW.2.1
  have bld := hW.2.2.1.1
  show yi_D zi_Ms d zi_m145 k (0, [(0, .inr (.inr (some 10))), (1, .inl x), (2, .inl y)], [], (I, L, R, Y), 0, 0) _
  refine yi_D_run 1 (1, [(0, .inr (.inr (some 10))), (1, .inl x), (2, .inl y)], [.inr (.inr (some 10))], (I, L, R, Y), 0, 0) (fun _ => rfl) ?_
  refine yi_D_gr (v := some 50) rfl rfl rfl (at_r hA (j := 6) rfl) (fun _ => ?_)
  refine yi_D_gi (v := (S.1.2.1 : Int)) rfl rfl rfl h50.2.1.2.1 (fun _ => ?_)
  refine yi_D_run 2 (9, [(3, .inl (S.1.2.1 : Int)), (0, .inr (.inr (some 10))), (1, .inl x), (2, .inl y)], [.inr (.inr (some 10))], (I, L, R, Y), 0, 0) (fun _ => rfl) ?_
  refine yi_D_gr (v := some q) rfl rfl rfl h16 (fun _ => ?_)
  refine yi_D_run 3 (15, [(3, .inl (S.1.2.1 : Int)), (0, .inr (.inr (some 10))), (1, .inl x), (2, .inl y)], [.inl y, .inl (S.1.2.1 : Int), .inl x, .inr (.inr (some q))], (I, L, R, Y), 0, 0) (fun _ => rfl) ?_
  refine yi_D_callv rfl (p_isWord hq hda hpe hev (by omega) (by omega) (by omega)) ?_
  rintro _ (⟨hb1, rfl⟩ | ⟨hb2, rfl⟩)
  · show yi_D zi_Ms d zi_m145 k (18, [(3, .inl (S.1.2.1 : Int)), (0, .inr (.inr (some 10))), (1, .inl x), (2, .inl y)], [.inl 1], (I, L, R, Y), 0, 0) _
    refine yi_D_if1 false rfl (by decide) ?_
    refine yi_D_run 1 (22, [(3, .inl (S.1.2.1 : Int)), (0, .inr (.inr (some 10))), (1, .inl x), (2, .inl y)], [.inr (.inr (some 10))], (I, L, R, Y), 0, 0) (fun _ => rfl) ?_
    refine yi_D_gr (v := some 50) rfl rfl rfl (at_r hA (j := 6) rfl) (fun _ => ?_)
    refine yi_D_run 2 (27, [(3, .inl (S.1.2.1 : Int)), (0, .inr (.inr (some 10))), (1, .inl x), (2, .inl y)], [.inl (S.1.2.1 : Int), .inl x, .inr (.inr (some 50))], (I, L, R, Y), 0, 0) (fun _ => rfl) ?_
    refine yi_D_callv rfl (p_cameOf h50.1) ?_
    rintro _ rfl
    rw [if_pos (show 0 ≤ x ∧ x < 4 ∧ 1 ≤ (S.1.2.1 : Int) ∧ (S.1.2.1 : Int) ≤ 6 by omega), show (4 * ((S.1.2.1 : Int) - 1) + x).toNat = 4 * (S.1.2.1 - 1) + x.toNat by omega, h50.2.2.2.2.1 _ _ (show S.1.2.1 - 1 < da by omega) (show x.toNat < pe by omega)]
    show yi_D zi_Ms d zi_m145 k (30, [(3, .inl (S.1.2.1 : Int)), (0, .inr (.inr (some 10))), (1, .inl x), (2, .inl y)], [.inl (S.2.2.2.2.1 (pe * (S.1.2.1 - 1) + x.toNat))], (I, L, R, Y), 0, 0) _
    refine yi_D_run 1 (31, [(3, .inl (S.1.2.1 : Int)), (0, .inr (.inr (some 10))), (1, .inl x), (2, .inl y)], [.inl (-1), .inl (S.2.2.2.2.1 (pe * (S.1.2.1 - 1) + x.toNat))], (I, L, R, Y), 0, 0) (fun _ => rfl) ?_
    by_cases h3 : (S.2.2.2.2.1 (pe * (S.1.2.1 - 1) + x.toNat)) = (-1)
    · refine yi_D_if2 true rfl (yi_eq_t h3) ?_
      refine yi_D_run 1 (37, [(3, .inl (S.1.2.1 : Int)), (0, .inr (.inr (some 10))), (1, .inl x), (2, .inl y)], [.inr (.inr (some 10))], (I, L, R, Y), 0, 0) (fun _ => rfl) ?_
      refine yi_D_gr (v := some 34) rfl rfl rfl (at_r hA (j := 2) rfl) (fun _ => ?_)
      refine yi_D_run 3 (43, [(3, .inl (S.1.2.1 : Int)), (0, .inr (.inr (some 10))), (1, .inl x), (2, .inl y)], [.inl y, .inl (S.1.2.1 : Int), .inl x, .inr (.inr (some 34))], (I, L, R, Y), 0, 0) (fun _ => rfl) ?_
      refine yi_D_calls rfl (p_wordNumber (by omega) (by omega) (by omega)) ?_
      rintro _ rfl
      obtain ⟨wf, wf1, wf2⟩ := hW.2.2.2.2.1 (S.1.2.1 - 1) x.toNat y.toNat (by omega) (by omega) (by omega)
      obtain ⟨wc, wc1, wc2, wc3, wc4⟩ := id wf2
      show yi_D zi_Ms d zi_m145 k (46, [(3, .inl (S.1.2.1 : Int)), (0, .inr (.inr (some 10))), (1, .inl x), (2, .inl y)], [.inl (16 * ((S.1.2.1 : Int) - 1) + 4 * x + y), .inr (.inr (some 34))], (I, L, R, Y), 0, 0) _
      refine yi_D_callv rfl (p_wordRow hA (w := wf) (by omega) (by rw [show (16 * ((S.1.2.1 : Int) - 1) + 4 * x + y).toNat = 16 * (S.1.2.1 - 1) + 4 * x.toNat + y.toNat by omega]; exact wf1)) ?_
      rintro _ rfl
      show yi_D zi_Ms d zi_m145 k (49, [(3, .inl (S.1.2.1 : Int)), (0, .inr (.inr (some 10))), (1, .inl x), (2, .inl y)], [.inr (.inr (some wf))], (I, L, R, Y), 0, 0) _
      refine yi_D_run 2 (52, [(4, .inr (.inr (some wf))), (3, .inl (S.1.2.1 : Int)), (0, .inr (.inr (some 10))), (1, .inl x), (2, .inl y)], [.inr (.inr (some 10))], (I, L, R, Y), 0, 0) (fun _ => rfl) ?_
      refine yi_D_gr (v := some 58) rfl rfl rfl (at_r hA (j := 9) rfl) (fun _ => ?_)
      refine yi_D_run 1 (57, [(4, .inr (.inr (some wf))), (3, .inl (S.1.2.1 : Int)), (0, .inr (.inr (some 10))), (1, .inl x), (2, .inl y)], [.inr (.inr (some wf)), .inr (.inr (some 58))], (I, L, R, Y), 0, 0) (fun _ => rfl) ?_
      refine yi_D_callv rfl (p_meets hL.1 wc1) ?_
      rintro _ (⟨hb4, rfl⟩ | ⟨hb5, rfl⟩)
      · rw [rw_any_c hL.2.1 wc2] at hb4
        show yi_D zi_Ms d zi_m145 k (60, [(4, .inr (.inr (some wf))), (3, .inl (S.1.2.1 : Int)), (0, .inr (.inr (some 10))), (1, .inl x), (2, .inl y)], [.inl 1], (I, L, R, Y), 0, 0) _
        refine yi_D_if1 true rfl (by decide) ?_
        refine yi_D_run 1 (66, [(4, .inr (.inr (some wf))), (3, .inl (S.1.2.1 : Int)), (0, .inr (.inr (some 10))), (1, .inl x), (2, .inl y)], [.inr (.inr (some 10))], (I, L, R, Y), 0, 0) (fun _ => rfl) ?_
        refine yi_D_callv rfl (p_remC hW hL h50 hP ha hb) ?_
        rintro _ ⟨I6, L7, R8, Y9, n10, m11, rfl, w12, l13, s14, p15, a16, K17, hq18⟩
        show yi_D zi_Ms d zi_m145 k (69, [(4, .inr (.inr (some wf))), (3, .inl (S.1.2.1 : Int)), (0, .inr (.inr (some 10))), (1, .inl x), (2, .inl y)], [], (I6, L7, R8, Y9), (0 + n10), (0 + m11)) _
        refine yi_D_run 1 (70, [(4, .inr (.inr (some wf))), (3, .inl (S.1.2.1 : Int)), (0, .inr (.inr (some 10))), (1, .inl x), (2, .inl y)], [.inr (.inr (some 10))], (I6, L7, R8, Y9), (0 + n10), (0 + m11)) (fun _ => rfl) ?_
        refine yi_D_gr (v := some 50) rfl rfl rfl (at_r w12.1.1 (j := 6) rfl) (fun _ => ?_)
        refine yi_D_run 3 (76, [(4, .inr (.inr (some wf))), (3, .inl (S.1.2.1 : Int)), (0, .inr (.inr (some 10))), (1, .inl x), (2, .inl y)], [.inr (.inr (some 10)), .inl y, .inl x, .inr (.inr (some 50))], (I6, L7, R8, Y9), (0 + n10), (0 + m11)) (fun _ => rfl) ?_
        refine yi_D_gr (v := some q) rfl rfl rfl w12.2.1.1 (fun _ => ?_)
        refine yi_D_gi (v := (pe : Int)) rfl rfl (Nat.ble_eq_true_of_le (by omega)) w12.2.1.2.2.2.2.2.1 (fun _ => ?_)
        refine yi_D_callv rfl (p_setCameI s14.1 s14.2.1.2.1 (by omega) (by omega) (by omega) (by omega)) ?_
        rintro _ ⟨I19, rfl, e120, e221, fI22⟩
        have zz := ca_50 (I' := I19) (R' := R8) w12 l13 p15 (fun x k h => ⟨fI22 x k (by omega), rfl⟩) (fun k hk => rfl)
        have zs := sc_S_ca s14 zz.1 (by omega) (by omega) hb e120 e221 fI22
        have za := sa_A_t a16 zz.1 rfl
        have wf3 := fr_S_t (fr_S_t wf2 K17) zz.1
        have wcl := zz.2.2.1
        show yi_D zi_Ms d zi_m145 k (85, [(4, .inr (.inr (some wf))), (3, .inl (S.1.2.1 : Int)), (0, .inr (.inr (some 10))), (1, .inl x), (2, .inl y)], [], (I19, L7, R8, Y9), (0 + n10), (0 + m11)) _
        refine yi_D_run 1 (86, [(4, .inr (.inr (some wf))), (3, .inl (S.1.2.1 : Int)), (0, .inr (.inr (some 10))), (1, .inl x), (2, .inl y)], [.inr (.inr (some 10))], (I19, L7, R8, Y9), (0 + n10), (0 + m11)) (fun _ => rfl) ?_
        refine yi_D_gr (v := some 58) rfl rfl rfl (at_r w12.1.1 (j := 9) rfl) (fun _ => ?_)
        refine yi_D_run 1 (91, [(4, .inr (.inr (some wf))), (3, .inl (S.1.2.1 : Int)), (0, .inr (.inr (some 10))), (1, .inl x), (2, .inl y)], [.inr (.inr (some wf)), .inr (.inr (some 58))], (I19, L7, R8, Y9), (0 + n10), (0 + m11)) (fun _ => rfl) ?_
        obtain ⟨vc, vc1, vc2, vc3, vc4⟩ := wf3
        refine yi_D_callv rfl (p_keep wcl.1 vc1) ?_
        rintro _ ⟨L23, rfl, k124, k225⟩
        have zf := ca_58 (I' := I19) (R' := R8) (L' := L23) zz.2.1 wcl zs zz.2.2.2 za (fun _ _ _ _ => rfl) (fun _ _ _ => rfl) (fun x k _ h => k225 x k (fun hh => h hh.1))
        have zl : ca_L I19 L23 R8 Y9 pf n c (lf (gd A W ev (ss_ca S pe x.toNat y).2.2.2.2.1 (da * pe)) (ss_ca S pe x.toNat y).2.2.1 (ss_ca S pe x.toNat y).1.1) := ⟨wcl.1, fun k hk => by rw [k124 k hk, wcl.2.1 k hk, vc2 k hk, hl k]; exact lf_ca (by omega) (by omega) (by have := kx_lt (show S.1.2.1 - 1 < da by omega) (show x.toNat < pe by omega); omega) k, wcl.2.2⟩
        show yi_D zi_Ms d zi_m145 k (94, [(4, .inr (.inr (some wf))), (3, .inl (S.1.2.1 : Int)), (0, .inr (.inr (some 10))), (1, .inl x), (2, .inl y)], [], (I19, L23, R8, Y9), (0 + n10), (0 + m11)) _
        refine yi_D_run 1 (95, [(4, .inr (.inr (some wf))), (3, .inl (S.1.2.1 : Int)), (0, .inr (.inr (some 10))), (1, .inl x), (2, .inl y)], [.inl 1], (I19, L23, R8, Y9), (0 + n10), (0 + m11)) (fun _ => rfl) ?_
        refine yi_D_reti rfl ?_
        exact Or.inr ⟨⟨by omega, by omega, by assumption⟩, _, _, _, _, _, _, rfl, zf.2.1, zl, zf.2.2.1, zf.2.2.2.1, zf.2.2.2.2⟩
      · rw [rw_any_c hL.2.1 wc2] at hb5
        show yi_D zi_Ms d zi_m145 k (60, [(4, .inr (.inr (some wf))), (3, .inl (S.1.2.1 : Int)), (0, .inr (.inr (some 10))), (1, .inl x), (2, .inl y)], [.inl 0], (I, L, R, Y), 0, 0) _
        refine yi_D_if1 false rfl (by decide) ?_
        refine yi_D_run 1 (64, [(4, .inr (.inr (some wf))), (3, .inl (S.1.2.1 : Int)), (0, .inr (.inr (some 10))), (1, .inl x), (2, .inl y)], [.inl 0], (I, L, R, Y), 0, 0) (fun _ => rfl) ?_
        refine yi_D_reti rfl ?_
        refine Or.inl ⟨?_, rfl⟩
        first
        | (intro h; omega)
        | (rintro ⟨h1, h2, h3⟩; omega)
        | (rintro ⟨h1, h2, h3⟩; exact absurd h3 (by assumption))
    · refine yi_D_if2 false rfl (yi_eq_f h3) ?_
      refine yi_D_run 1 (35, [(3, .inl (S.1.2.1 : Int)), (0, .inr (.inr (some 10))), (1, .inl x), (2, .inl y)], [.inl 0], (I, L, R, Y), 0, 0) (fun _ => rfl) ?_
      refine yi_D_reti rfl ?_
      refine Or.inl ⟨?_, rfl⟩
      first
      | (intro h; omega)
      | (rintro ⟨h1, h2, h3⟩; omega)
      | (rintro ⟨h1, h2, h3⟩; exact absurd h3 (by assumption))
  · show yi_D zi_Ms d zi_m145 k (18, [(3, .inl (S.1.2.1 : Int)), (0, .inr (.inr (some 10))), (1, .inl x), (2, .inl y)], [.inl 0], (I, L, R, Y), 0, 0) _
    refine yi_D_if1 true rfl (by decide) ?_
    refine yi_D_run 1 (35, [(3, .inl (S.1.2.1 : Int)), (0, .inr (.inr (some 10))), (1, .inl x), (2, .inl y)], [.inl 0], (I, L, R, Y), 0, 0) (fun _ => rfl) ?_
    refine yi_D_reti rfl ?_
    refine Or.inl ⟨?_, rfl⟩
    first
    | (intro h; omega)
    | (rintro ⟨h1, h2, h3⟩; omega)
    | (rintro ⟨h1, h2, h3⟩; exact absurd h3 (by assumption))
