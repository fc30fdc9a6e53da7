/-! The check: stories in blocks, copied, kept. -/
/-- what was told by hand: how many sayings, today, how many promises; sayings: whose, price, left then; their rows; purses; what came; promises -/
abbrev ss_T : Type := (Nat × Nat × Nat) × (Nat → Int × Int × Int) × (Nat → Nat → Int) × (Nat → Int) × (Nat → Int) × (Nat → Int × Int)
/-- a story as a block of the check's holds it -/
def sm_B (I L : Nat → Nat → Int) (n P pr b : Nat) (S : ss_T) : Prop := (I 100 (110 * b) = (S.1.1 : Int) ∧ I 100 (110 * b + 1) = (S.1.2.1 : Int) ∧ I 100 (110 * b + 2) = (S.1.2.2 : Int)) ∧ (∀ p, p < pr → I 100 (110 * b + 3 + p) = S.2.2.2.1 p) ∧ (∀ i, i < S.1.1 → I 100 (110 * b + 8 + 3 * i) = (S.2.1 i).1 ∧ I 100 (110 * b + 9 + 3 * i) = (S.2.1 i).2.1 ∧ I 100 (110 * b + 10 + 3 * i) = (S.2.1 i).2.2) ∧ (∀ i k, i < S.1.1 → k < n → L 97 (512 * (60 + 12 * b + i) + k) = S.2.2.1 i k) ∧ (∀ k, k < P → I 100 (110 * b + 44 + k) = S.2.2.2.2.1 k) ∧ (∀ i, i < S.1.2.2 → I 100 (110 * b + 68 + 2 * i) = (S.2.2.2.2.2 i).1 ∧ I 100 (110 * b + 69 + 2 * i) = (S.2.2.2.2.2 i).2)
def ss_ok (da P ev pr : Nat) (S : ss_T) : Prop := S.1.1 ≤ 12 ∧ (1 ≤ S.1.2.1 ∧ S.1.2.1 ≤ da + 1) ∧ S.1.2.2 ≤ 20 ∧ (∀ k, k < P → S.2.2.2.2.1 k = -1 ∨ (0 ≤ S.2.2.2.2.1 k ∧ S.2.2.2.2.1 k < ev)) ∧ (∀ i, i < S.1.1 → 0 ≤ (S.2.1 i).1 ∧ (S.2.1 i).1 < pr) ∧ (∀ p, p < pr → 0 ≤ S.2.2.2.1 p ∧ S.2.2.2.1 p ≤ 99999) ∧ (∀ i, i < S.1.2.2 → (0 ≤ (S.2.2.2.2.2 i).1 ∧ (S.2.2.2.2.2 i).1 ≤ 3) ∧ 0 ≤ (S.2.2.2.2.2 i).2 ∧ (S.2.2.2.2.2 i).2 ≤ 99)
section SMB
variable {I L I' L' : Nat → Nat → Int} {n P pr b c : Nat} {S : ss_T}
/-- a block that stays, or is copied -/
theorem sm_B_c (h : sm_B I L n P pr b S) (hb : P ≤ 24 ∧ pr ≤ 5 ∧ S.1.1 ≤ 12 ∧ S.1.2.2 ≤ 20 ∧ n ≤ 512) (hI : ∀ k, k < 110 → I' 100 (110 * c + k) = I 100 (110 * b + k)) (hL : ∀ i k, i < S.1.1 → k < n → L' 97 (512 * (60 + 12 * c + i) + k) = L 97 (512 * (60 + 12 * b + i) + k)) : sm_B I' L' n P pr c S := by
  obtain ⟨⟨h1, h2, h3⟩, h4, h5, h6, h7, h8⟩ := h
  refine ⟨⟨?_, ?_, ?_⟩, fun p hp => ?_, fun i hi => ⟨?_, ?_, ?_⟩, fun i k hi hk => (hL i k hi hk).trans (h6 i k hi hk), fun k hk => ?_, fun i hi => ⟨?_, ?_⟩⟩
  · exact (hI 0 (by omega)).trans h1
  · exact (hI 1 (by omega)).trans h2
  · exact (hI 2 (by omega)).trans h3
  · have e := hI (3 + p) (by omega)
    rw [← Nat.add_assoc, ← Nat.add_assoc] at e
    exact e.trans (h4 p hp)
  · have e := hI (8 + 3 * i) (by omega)
    rw [← Nat.add_assoc, ← Nat.add_assoc] at e
    exact e.trans (h5 i hi).1
  · have e := hI (9 + 3 * i) (by omega)
    rw [← Nat.add_assoc, ← Nat.add_assoc] at e
    exact e.trans (h5 i hi).2.1
  · have e := hI (10 + 3 * i) (by omega)
    rw [← Nat.add_assoc, ← Nat.add_assoc] at e
    exact e.trans (h5 i hi).2.2
  · have e := hI (44 + k) (by omega)
    rw [← Nat.add_assoc, ← Nat.add_assoc] at e
    exact e.trans (h7 k hk)
  · have e := hI (68 + 2 * i) (by omega)
    rw [← Nat.add_assoc, ← Nat.add_assoc] at e
    exact e.trans (h8 i hi).1
  · have e := hI (69 + 2 * i) (by omega)
    rw [← Nat.add_assoc, ← Nat.add_assoc] at e
    exact e.trans (h8 i hi).2
end SMB
def q_fb (I I' : Nat → Nat → Int) (c : Nat) : Prop := ∀ p i, ¬ (p = 100 ∧ 110 * c ≤ i ∧ i < 110 * c + 110) → I' p i = I p i
def q_fs (L L' : Nat → Nat → Int) (c : Nat) : Prop := ∀ p i, ¬ (p = 97 ∧ 512 * (60 + 12 * c) ≤ i ∧ i < 512 * (72 + 12 * c)) → L' p i = L p i
theorem q_copies {d : Nat} {I L : Nat → Nat → Int} {R : Nat → Nat → Option Nat} {Y : (Nat → Nat) × (Nat → Nat) × Nat} (hS : ym_S (R, Y)) {n a b t : Nat} {x y : Int} (h25 : I 82 25 = (n : Int)) (hn5 : n ≤ 512) (hx : x = (a : Int)) (hy : y = (b : Int)) (ha : a ≤ 20) (hb : b ≤ 20) (hab : ¬ a = b) (ht : I 100 (110 * a) = (t : Int)) (ht2 : t ≤ 12) : yi_P zi_Ms d 13 [.inr (.inr (some 82)), .inl x, .inl y] (I, L, R, Y) (fun r => ∃ I' L', r = (none, (I', L', R, Y), 0, 0) ∧ (∀ k, k < 110 → I' 100 (110 * b + k) = I 100 (110 * a + k)) ∧ q_fb I I' b ∧ (∀ i k, i < t → k < n → L' 97 (512 * (60 + 12 * b + i) + k) = L 97 (512 * (60 + 12 * a + i) + k)) ∧ q_fs L L' b) := by
  refine yi_P_of (M := zi_m13) rfl (fun d k => ?_)
  show yi_D zi_Ms d zi_m13 k (0, [(0, .inr (.inr (some 82))), (1, .inl x), (2, .inl y)], [], (I, L, R, Y), 0, 0) _
  refine yi_D_run 2 (2, [(3, .inl 0), (0, .inr (.inr (some 82))), (1, .inl x), (2, .inl y)], [], (I, L, R, Y), 0, 0) (fun _ => rfl) ?_
  have pt2 : ∀ j2, j2 ≤ k → ∀ (y3 : Int) (J1 : Nat → Nat → Int), (0 ≤ y3 ∧ y3 ≤ 110) → (∀ k : Nat, (k : Int) < y3 → J1 100 (110 * b + k) = I 100 (110 * a + k)) → (q_fb I J1 b) → yi_D zi_Ms d zi_m13 j2 (2, [(3, .inl y3), (0, .inr (.inr (some 82))), (1, .inl x), (2, .inl y)], [], (J1, L, R, Y), 0, 0) (fun r => ∃ I' L', r = (none, (I', L', R, Y), 0, 0) ∧ (∀ k, k < 110 → I' 100 (110 * b + k) = I 100 (110 * a + k)) ∧ q_fb I I' b ∧ (∀ i k, i < t → k < n → L' 97 (512 * (60 + 12 * b + i) + k) = L 97 (512 * (60 + 12 * a + i) + k)) ∧ q_fs L L' b) := by
    intro j2
    induction j2 with
    | zero => intros; exact yi_D_0
    | succ j2 ih2 =>
    intro hk2 y3 J1 hy3 hv1 hf1
    refine yi_D_run1 1 (5, [(3, .inl y3), (0, .inr (.inr (some 82))), (1, .inl x), (2, .inl y)], [.inl 110, .inl y3], (J1, L, R, Y), 0, 0) (fun _ => rfl) ?_
    by_cases h1 : 110 ≤ y3
    · refine yi_D_if2 true rfl (yi_ge_t h1) ?_
      refine yi_D_run 2 (38, [(3, .inl 0), (0, .inr (.inr (some 82))), (1, .inl x), (2, .inl y)], [], (J1, L, R, Y), 0, 0) (fun _ => rfl) ?_
      have pt38 : ∀ j38, j38 ≤ j2 → ∀ (y4 : Int) (G2 : Nat → Nat → Int), (0 ≤ y4 ∧ y4 ≤ (t : Int)) → (∀ i k : Nat, (i : Int) < y4 → k < n → G2 97 (512 * (60 + 12 * b + i) + k) = L 97 (512 * (60 + 12 * a + i) + k)) → (q_fs L G2 b) → yi_D zi_Ms d zi_m13 j38 (38, [(3, .inl y4), (0, .inr (.inr (some 82))), (1, .inl x), (2, .inl y)], [], (J1, G2, R, Y), 0, 0) (fun r => ∃ I' L', r = (none, (I', L', R, Y), 0, 0) ∧ (∀ k, k < 110 → I' 100 (110 * b + k) = I 100 (110 * a + k)) ∧ q_fb I I' b ∧ (∀ i k, i < t → k < n → L' 97 (512 * (60 + 12 * b + i) + k) = L 97 (512 * (60 + 12 * a + i) + k)) ∧ q_fs L L' b) := by
        intro j38
        induction j38 with
        | zero => intros; exact yi_D_0
        | succ j38 ih38 =>
        intro hk38 y4 G2 hy4 hv2 hf2
        refine yi_D_run1 1 (40, [(3, .inl y4), (0, .inr (.inr (some 82))), (1, .inl x), (2, .inl y)], [.inr (.inr (some 82)), .inl y4], (J1, G2, R, Y), 0, 0) (fun _ => rfl) ?_
        refine yi_D_gr (v := some 100) rfl rfl rfl (ym_S_at hS (j := 17) rfl).1 (fun _ => ?_)
        refine yi_D_run 2 (46, [(3, .inl y4), (0, .inr (.inr (some 82))), (1, .inl x), (2, .inl y)], [.inl x, .inl 110, .inr (.inr (some 100)), .inl y4], (J1, G2, R, Y), 0, 0) (fun _ => rfl) ?_
        refine yi_D_imul rfl (110 * x) (yi_wn (by omega) (by omega)) ?_
        have hrt : J1 100 (110 * x).toNat = (t : Int) := by rw [show (110 * x).toNat = 110 * a by omega]; exact (hf1 100 _ (by omega)).trans ht
        refine yi_D_il (v := (t : Int)) rfl rfl hrt (fun _ _ => ?_)
        by_cases h2 : (t : Int) ≤ y4
        · refine yi_D_if2 true rfl (yi_ge_t h2) ?_
          refine yi_D_retv rfl ?_
          exact ⟨_, _, rfl, fun k hk => hv1 k (by omega), hf1, fun i k hi hk => hv2 i k (by omega) hk, hf2⟩
        · refine yi_D_if2 false rfl (yi_ge_f h2) ?_
          refine yi_D_run 4 (57, [(3, .inl y4), (0, .inr (.inr (some 82))), (1, .inl x), (2, .inl y)], [.inl x, .inl 12, .inl 60, .inr (.inr (some 82))], (J1, G2, R, Y), 0, 0) (fun _ => rfl) ?_
          refine yi_D_imul rfl (12 * x) (yi_wn (by omega) (by omega)) ?_
          refine yi_D_iadd rfl (60 + (12 * x)) (yi_wn (by omega) (by omega)) ?_
          refine yi_D_run 1 (60, [(3, .inl y4), (0, .inr (.inr (some 82))), (1, .inl x), (2, .inl y)], [.inl y4, .inl (60 + (12 * x)), .inr (.inr (some 82))], (J1, G2, R, Y), 0, 0) (fun _ => rfl) ?_
          refine yi_D_iadd rfl ((60 + (12 * x)) + y4) (yi_wn (by omega) (by omega)) ?_
          refine yi_D_run 3 (66, [(3, .inl y4), (0, .inr (.inr (some 82))), (1, .inl x), (2, .inl y)], [.inl y, .inl 12, .inl 60, .inl ((60 + (12 * x)) + y4), .inr (.inr (some 82))], (J1, G2, R, Y), 0, 0) (fun _ => rfl) ?_
          refine yi_D_imul rfl (12 * y) (yi_wn (by omega) (by omega)) ?_
          refine yi_D_iadd rfl (60 + (12 * y)) (yi_wn (by omega) (by omega)) ?_
          refine yi_D_run 1 (69, [(3, .inl y4), (0, .inr (.inr (some 82))), (1, .inl x), (2, .inl y)], [.inl y4, .inl (60 + (12 * y)), .inl ((60 + (12 * x)) + y4), .inr (.inr (some 82))], (J1, G2, R, Y), 0, 0) (fun _ => rfl) ?_
          refine yi_D_iadd rfl ((60 + (12 * y)) + y4) (yi_wn (by omega) (by omega)) ?_
          refine yi_D_callv rfl (q_copiesRow (a := 60 + 12 * a + y4.toNat) (b := 60 + 12 * b + y4.toNat) hS (by omega) (by omega) (by omega) (by omega) ((hf1 82 25 (by omega)).trans h25) hn5) ?_
          rintro _ ⟨L3, rfl, k14, k25⟩
          have hkp : ∀ i k : Nat, (i : Int) < y4 + 1 → k < n → L3 97 (512 * (60 + 12 * b + i) + k) = L 97 (512 * (60 + 12 * a + i) + k) := fun i k hi hk => by by_cases e : (i : Int) = y4; obtain rfl : i = y4.toNat := (by omega); rw [k14 k hk, hf2 97 _ (by omega)]; rw [k25 97 _ (by omega)]; exact hv2 i k (by omega) hk
          have hkf : q_fs L L3 b := fun p i h => by rw [k25 p i (by omega)]; exact hf2 p i h
          show yi_D zi_Ms d zi_m13 j38 (73, [(3, .inl y4), (0, .inr (.inr (some 82))), (1, .inl x), (2, .inl y)], [], (J1, L3, R, Y), 0, 0) _
          refine yi_D_iinc [(3, .inl (y4 + 1)), (0, .inr (.inr (some 82))), (1, .inl x), (2, .inl y)] rfl rfl rfl (by rw [show yi_w (y4 + 1) = y4 + 1 from (yi_wn (by omega) (by omega)).trans (by omega)]; rfl) ?_
          refine yi_D_run 1 (38, [(3, .inl (y4 + 1)), (0, .inr (.inr (some 82))), (1, .inl x), (2, .inl y)], [], (J1, L3, R, Y), 0, 0) (fun _ => rfl) ?_
          exact yi_D_mono (ih38 (by omega) (y4 + 1) L3 (by omega) hkp hkf) (by omega)
      exact pt38 j2 (Nat.le_refl _) 0 L (by omega) (fun i k hi _ => absurd hi (by omega)) (fun _ _ _ => rfl)
    · refine yi_D_if2 false rfl (yi_ge_f h1) ?_
      refine yi_D_run 1 (9, [(3, .inl y3), (0, .inr (.inr (some 82))), (1, .inl x), (2, .inl y)], [.inr (.inr (some 82))], (J1, L, R, Y), 0, 0) (fun _ => rfl) ?_
      refine yi_D_gr (v := some 100) rfl rfl rfl (ym_S_at hS (j := 17) rfl).1 (fun _ => ?_)
      refine yi_D_run 2 (15, [(3, .inl y3), (0, .inr (.inr (some 82))), (1, .inl x), (2, .inl y)], [.inl y, .inl 110, .inr (.inr (some 100))], (J1, L, R, Y), 0, 0) (fun _ => rfl) ?_
      refine yi_D_imul rfl (110 * y) (yi_wn (by omega) (by omega)) ?_
      refine yi_D_run 1 (17, [(3, .inl y3), (0, .inr (.inr (some 82))), (1, .inl x), (2, .inl y)], [.inl y3, .inl (110 * y), .inr (.inr (some 100))], (J1, L, R, Y), 0, 0) (fun _ => rfl) ?_
      refine yi_D_iadd rfl ((110 * y) + y3) (yi_wn (by omega) (by omega)) ?_
      refine yi_D_run 1 (19, [(3, .inl y3), (0, .inr (.inr (some 82))), (1, .inl x), (2, .inl y)], [.inr (.inr (some 82)), .inl ((110 * y) + y3), .inr (.inr (some 100))], (J1, L, R, Y), 0, 0) (fun _ => rfl) ?_
      refine yi_D_gr (v := some 100) rfl rfl rfl (ym_S_at hS (j := 17) rfl).1 (fun _ => ?_)
      refine yi_D_run 2 (25, [(3, .inl y3), (0, .inr (.inr (some 82))), (1, .inl x), (2, .inl y)], [.inl x, .inl 110, .inr (.inr (some 100)), .inl ((110 * y) + y3), .inr (.inr (some 100))], (J1, L, R, Y), 0, 0) (fun _ => rfl) ?_
      refine yi_D_imul rfl (110 * x) (yi_wn (by omega) (by omega)) ?_
      refine yi_D_run 1 (27, [(3, .inl y3), (0, .inr (.inr (some 82))), (1, .inl x), (2, .inl y)], [.inl y3, .inl (110 * x), .inr (.inr (some 100)), .inl ((110 * y) + y3), .inr (.inr (some 100))], (J1, L, R, Y), 0, 0) (fun _ => rfl) ?_
      refine yi_D_iadd rfl ((110 * x) + y3) (yi_wn (by omega) (by omega)) ?_
      have hrd : J1 100 (110 * x + y3).toNat = I 100 (110 * a + y3.toNat) := by rw [show (110 * x + y3).toNat = 110 * a + y3.toNat by omega]; exact hf1 100 _ (by omega)
      refine yi_D_il (v := J1 100 (((110 * x) + y3).toNat)) rfl rfl rfl (fun _ _ => ?_)
      refine yi_D_is rfl (fun _ _ => ?_)
      generalize w7 : yi_u J1 100 (((110 * y) + y3).toNat) (J1 100 (((110 * x) + y3).toNat)) = I6
      refine yi_D_iinc [(3, .inl (y3 + 1)), (0, .inr (.inr (some 82))), (1, .inl x), (2, .inl y)] rfl rfl rfl (by rw [show yi_w (y3 + 1) = y3 + 1 from (yi_wn (by omega) (by omega)).trans (by omega)]; rfl) ?_
      refine yi_D_run 1 (2, [(3, .inl (y3 + 1)), (0, .inr (.inr (some 82))), (1, .inl x), (2, .inl y)], [], (I6, L, R, Y), 0, 0) (fun _ => rfl) ?_
      exact yi_D_mono (ih2 (by omega) (y3 + 1) I6 (by omega) (fun k hk => by by_cases e : (k : Int) = y3; obtain rfl : k = y3.toNat := (by omega); rw [← w7, show (110 * y + y3).toNat = 110 * b + y3.toNat by omega, yi_u_eq]; exact hrd; rw [← w7, yi_u_ne _ _ (by omega)]; exact hv1 k (by omega)) (fun p i h => by rw [← w7, yi_u_ne _ _ (by omega)]; exact hf1 p i h)) (by omega)
  exact pt2 k (Nat.le_refl _) 0 I (by omega) (fun k hk => absurd hk (by omega)) (fun _ _ _ => rfl)
/-- one more is kept -/
def us_p (u : Nat) (U : Nat → ss_T) (S : ss_T) : Nat → ss_T := fun j => if u < 16 then (if j = u then S else U j) else (if j < 15 then U (j + 1) else S)
def us_n (u : Nat) : Nat := if u < 16 then u + 1 else 16
/-- two contracts' rests -/
theorem sm_B_o {I L I' L' : Nat → Nat → Int} {n P pr b c : Nat} {S : ss_T} (h : sm_B I L n P pr b S) (hb : P ≤ 24 ∧ pr ≤ 5 ∧ S.1.1 ≤ 12 ∧ S.1.2.2 ≤ 20 ∧ n ≤ 512) (hne : ¬ b = c) (hI : q_fb I I' c) (hL : q_fs L L' c) : sm_B I' L' n P pr b S := sm_B_c h hb (fun k hk => hI 100 _ (by omega)) (fun i k hi hk => hL 97 _ (by omega))
theorem q_keeps {d : Nat} {I L : Nat → Nat → Int} {R : Nat → Nat → Option Nat} {Y : (Nat → Nat) × (Nat → Nat) × Nat} (hS : ym_S (R, Y)) {n P pr u : Nat} {S : ss_T} {U : Nat → ss_T} (h25 : I 82 25 = (n : Int)) (hn5 : n ≤ 512) (hP24 : P ≤ 24) (hpr : pr ≤ 5) (h30 : I 82 30 = (u : Int)) (hu : u ≤ 16) (hB0 : sm_B I L n P pr 0 S) (hoS : S.1.1 ≤ 12 ∧ S.1.2.2 ≤ 20) (hBu : ∀ j, j < u → sm_B I L n P pr (5 + j) (U j)) (hok0 : ∀ j, j < u → (U j).1.1 ≤ 12 ∧ (U j).1.2.2 ≤ 20) : yi_P zi_Ms d 67 [.inr (.inr (some 82))] (I, L, R, Y) (fun r => ∃ I' L', r = (none, (I', L', R, Y), 0, 0) ∧ I' 82 30 = (us_n u : Int) ∧ (∀ j, j < us_n u → sm_B I' L' n P pr (5 + j) (us_p u U S j)) ∧ (∀ p i, ¬ (p = 100 ∧ 550 ≤ i) ∧ ¬ (p = 82 ∧ i = 30) → I' p i = I p i) ∧ (∀ p i, ¬ (p = 97 ∧ 512 * 120 ≤ i) → L' p i = L p i)) := by
  refine yi_P_of (M := zi_m67) rfl (fun d k => ?_)
  have hok : ∀ j, j < u → (U j).1.1 ≤ 12 ∧ (U j).1.2.2 ≤ 20 := hok0
  show yi_D zi_Ms d zi_m67 k (0, [(0, .inr (.inr (some 82)))], [], (I, L, R, Y), 0, 0) _
  refine yi_D_run 1 (1, [(0, .inr (.inr (some 82)))], [.inr (.inr (some 82))], (I, L, R, Y), 0, 0) (fun _ => rfl) ?_
  refine yi_D_gi (v := (u : Int)) rfl rfl rfl h30 (fun _ => ?_)
  refine yi_D_run 1 (6, [(0, .inr (.inr (some 82)))], [.inl 16, .inl (u : Int)], (I, L, R, Y), 0, 0) (fun _ => rfl) ?_
  by_cases h1 : (u : Int) = 16
  · refine yi_D_if2 false rfl (yi_ne_f h1) ?_
    have hu16 : u = 16 := by omega
    refine yi_D_run 2 (11, [(1, .inl 1), (0, .inr (.inr (some 82)))], [], (I, L, R, Y), 0, 0) (fun _ => rfl) ?_
    have pt11 : ∀ j11, j11 ≤ k → ∀ (y1 : Int) (J1 : Nat → Nat → Int) (G1 : Nat → Nat → Int), (1 ≤ y1 ∧ y1 ≤ 16) → (∀ j : Nat, (j : Int) < y1 - 1 → sm_B J1 G1 n P pr (5 + j) (U (j + 1))) → (∀ j : Nat, y1 - 1 ≤ (j : Int) → j < 16 → sm_B J1 G1 n P pr (5 + j) (U j)) → (∀ p i, ¬ (p = 100 ∧ 550 ≤ i) ∧ ¬ (p = 82 ∧ i = 30) → J1 p i = I p i) → (∀ p i, ¬ (p = 97 ∧ 512 * 120 ≤ i) → G1 p i = L p i) → (J1 82 30 = 16) → yi_D zi_Ms d zi_m67 j11 (11, [(1, .inl y1), (0, .inr (.inr (some 82)))], [], (J1, G1, R, Y), 0, 0) (fun r => ∃ I' L', r = (none, (I', L', R, Y), 0, 0) ∧ I' 82 30 = (us_n u : Int) ∧ (∀ j, j < us_n u → sm_B I' L' n P pr (5 + j) (us_p u U S j)) ∧ (∀ p i, ¬ (p = 100 ∧ 550 ≤ i) ∧ ¬ (p = 82 ∧ i = 30) → I' p i = I p i) ∧ (∀ p i, ¬ (p = 97 ∧ 512 * 120 ≤ i) → L' p i = L p i)) := by
      intro j11
      induction j11 with
      | zero => intros; exact yi_D_0
      | succ j11 ih11 =>
      intro hk11 y1 J1 G1 hy1 hlo1 hlo2 hf1 hg1 h3016
      refine yi_D_run1 1 (14, [(1, .inl y1), (0, .inr (.inr (some 82)))], [.inl 16, .inl y1], (J1, G1, R, Y), 0, 0) (fun _ => rfl) ?_
      by_cases h2 : 16 ≤ y1
      · refine yi_D_if2 true rfl (yi_ge_t h2) ?_
        refine yi_D_run 2 (37, [(1, .inl y1), (0, .inr (.inr (some 82)))], [.inr (.inr (some 82)), .inr (.inr (some 82))], (J1, G1, R, Y), 0, 0) (fun _ => rfl) ?_
        refine yi_D_gi (v := 16) rfl rfl rfl h3016 (fun _ => ?_)
        refine yi_D_run 1 (41, [(1, .inl y1), (0, .inr (.inr (some 82)))], [.inl 1, .inl 16, .inr (.inr (some 82))], (J1, G1, R, Y), 0, 0) (fun _ => rfl) ?_
        refine yi_D_isub rfl (15) (by decide) ?_
        refine yi_D_pi rfl (fun _ => ?_)
        generalize w4 : yi_u J1 82 30 15 = I3
        refine yi_D_run 4 (49, [(1, .inl y1), (0, .inr (.inr (some 82)))], [.inr (.inr (some 82)), .inl 5, .inl 0, .inr (.inr (some 82))], (I3, G1, R, Y), 0, 0) (fun _ => rfl) ?_
        have r5 : I3 82 30 = 15 := by rw [← w4, yi_u_eq]
        refine yi_D_gi (v := 15) rfl rfl rfl r5 (fun _ => ?_)
        refine yi_D_iadd rfl (20) (by decide) ?_
        have hB1 : sm_B I3 G1 n P pr 0 S := sm_B_c hB0 ⟨hP24, hpr, hoS.1, hoS.2, hn5⟩ (fun k hk => by rw [← w4, yi_u_ne _ _ (by omega)]; exact hf1 100 _ (by omega)) (fun i k hi hk => hg1 97 _ (by omega))
        refine yi_D_callv rfl (q_copies (a := 0) (b := 20) hS (by rw [← w4, yi_u_ne _ _ (by omega), hf1 82 25 (by omega)]; exact h25) hn5 rfl (by omega) (by omega) (by omega) (by omega) hB1.1.1 hoS.1) ?_
        rintro _ ⟨I6, L7, rfl, c18, c29, c310, c411⟩
        show yi_D zi_Ms d zi_m67 j11 (56, [(1, .inl y1), (0, .inr (.inr (some 82)))], [], (I6, L7, R, Y), 0, 0) _
        refine yi_D_run 2 (58, [(1, .inl y1), (0, .inr (.inr (some 82)))], [.inr (.inr (some 82)), .inr (.inr (some 82))], (I6, L7, R, Y), 0, 0) (fun _ => rfl) ?_
        have r12 : I6 82 30 = 15 := by rw [c29 82 30 (by omega), ← w4, yi_u_eq]
        refine yi_D_gi (v := 15) rfl rfl rfl r12 (fun _ => ?_)
        refine yi_D_run 1 (62, [(1, .inl y1), (0, .inr (.inr (some 82)))], [.inl 1, .inl 15, .inr (.inr (some 82))], (I6, L7, R, Y), 0, 0) (fun _ => rfl) ?_
        refine yi_D_iadd rfl (16) (by decide) ?_
        refine yi_D_pi rfl (fun _ => ?_)
        generalize w14 : yi_u I6 82 30 16 = I13
        refine yi_D_retv rfl ?_
        have hun : us_n u = 16 := if_neg (by omega)
        refine ⟨_, _, rfl, by rw [← w14, yi_u_eq, hun]; rfl, fun j hj => ?_, fun p i h => by rw [← w14, yi_u_ne _ _ (by omega), c29 p i (by omega), ← w4, yi_u_ne _ _ (by omega)]; exact hf1 p i h, fun p i h => by rw [c411 p i (by omega)]; exact hg1 p i h⟩
        rw [hun] at hj
        have hS3 : sm_B I6 L7 n P pr (5 + j) (us_p u U S j) → sm_B I13 L7 n P pr (5 + j) (us_p u U S j) := fun h => sm_B_c h ⟨hP24, hpr, ?_, ?_, hn5⟩ (fun k hk => by rw [← w14, yi_u_ne _ _ (by omega)]) (fun _ _ _ _ => rfl)
        · apply hS3
          unfold us_p
          rw [if_neg (show ¬ u < 16 by omega)]
          by_cases e : j < 15
          · rw [if_pos e]; refine sm_B_o (sm_B_c (hlo1 j (by omega)) ⟨hP24, hpr, (hok _ (by omega)).1, (hok _ (by omega)).2, hn5⟩ (fun k hk => by rw [← w4, yi_u_ne _ _ (by omega)]) (fun _ _ _ _ => rfl)) ⟨hP24, hpr, (hok _ (by omega)).1, (hok _ (by omega)).2, hn5⟩ (by omega) c29 c411
          · rw [if_neg e, show 5 + j = 20 by omega]; exact sm_B_c hB1 ⟨hP24, hpr, hoS.1, hoS.2, hn5⟩ c18 c310
        · unfold us_p; rw [if_neg (show ¬ u < 16 by omega)]; by_cases e : j < 15; rw [if_pos e]; exact (hok _ (by omega)).1; rw [if_neg e]; exact hoS.1
        · unfold us_p; rw [if_neg (show ¬ u < 16 by omega)]; by_cases e : j < 15; rw [if_pos e]; exact (hok _ (by omega)).2; rw [if_neg e]; exact hoS.2
      · refine yi_D_if2 false rfl (yi_ge_f h2) ?_
        refine yi_D_run 3 (20, [(1, .inl y1), (0, .inr (.inr (some 82)))], [.inl y1, .inl 5, .inr (.inr (some 82))], (J1, G1, R, Y), 0, 0) (fun _ => rfl) ?_
        refine yi_D_iadd rfl (5 + y1) (yi_wn (by omega) (by omega)) ?_
        refine yi_D_run 2 (23, [(1, .inl y1), (0, .inr (.inr (some 82)))], [.inl y1, .inl 5, .inl (5 + y1), .inr (.inr (some 82))], (J1, G1, R, Y), 0, 0) (fun _ => rfl) ?_
        refine yi_D_iadd rfl (5 + y1) (yi_wn (by omega) (by omega)) ?_
        refine yi_D_run 1 (25, [(1, .inl y1), (0, .inr (.inr (some 82)))], [.inl 1, .inl (5 + y1), .inl (5 + y1), .inr (.inr (some 82))], (J1, G1, R, Y), 0, 0) (fun _ => rfl) ?_
        refine yi_D_isub rfl ((5 + y1) - 1) (yi_wn (by omega) (by omega)) ?_
        have hcu := hlo2 y1.toNat (by omega) (by omega)
        refine yi_D_callv rfl (q_copies (a := 5 + y1.toNat) (b := 4 + y1.toNat) hS (by rw [hf1 82 25 (by omega)]; exact h25) hn5 (by omega) (by omega) (by omega) (by omega) (by omega) hcu.1.1 (hok _ (by omega)).1) ?_
        rintro _ ⟨I15, L16, rfl, c117, c218, c319, c420⟩
        have hk1 : ∀ j : Nat, (j : Int) < y1 + 1 - 1 → sm_B I15 L16 n P pr (5 + j) (U (j + 1)) := fun j hj => by by_cases e : (j : Int) = y1 - 1; rw [show j + 1 = y1.toNat by omega, show 5 + j = 4 + y1.toNat by omega]; exact sm_B_c hcu ⟨hP24, hpr, (hok _ (by omega)).1, (hok _ (by omega)).2, hn5⟩ c117 c319; exact sm_B_o (hlo1 j (by omega)) ⟨hP24, hpr, (hok _ (by omega)).1, (hok _ (by omega)).2, hn5⟩ (by omega) c218 c420
        have hk2 : ∀ j : Nat, y1 + 1 - 1 ≤ (j : Int) → j < 16 → sm_B I15 L16 n P pr (5 + j) (U j) := fun j h1 h2 => sm_B_o (hlo2 j (by omega) h2) ⟨hP24, hpr, (hok j (by omega)).1, (hok j (by omega)).2, hn5⟩ (by omega) c218 c420
        have hk3 : ∀ p i, ¬ (p = 100 ∧ 550 ≤ i) ∧ ¬ (p = 82 ∧ i = 30) → I15 p i = I p i := fun p i h => by rw [c218 p i (by omega)]; exact hf1 p i h
        have hk4 : ∀ p i, ¬ (p = 97 ∧ 512 * 120 ≤ i) → L16 p i = L p i := fun p i h => by rw [c420 p i (by omega)]; exact hg1 p i h
        have hk5 : I15 82 30 = 16 := by rw [c218 82 30 (by omega)]; exact h3016
        show yi_D zi_Ms d zi_m67 j11 (29, [(1, .inl y1), (0, .inr (.inr (some 82)))], [], (I15, L16, R, Y), 0, 0) _
        refine yi_D_iinc [(1, .inl (y1 + 1)), (0, .inr (.inr (some 82)))] rfl rfl rfl (by rw [show yi_w (y1 + 1) = y1 + 1 from (yi_wn (by omega) (by omega)).trans (by omega)]; rfl) ?_
        refine yi_D_run 1 (11, [(1, .inl (y1 + 1)), (0, .inr (.inr (some 82)))], [], (I15, L16, R, Y), 0, 0) (fun _ => rfl) ?_
        exact yi_D_mono (ih11 (by omega) (y1 + 1) I15 L16 (by omega) hk1 hk2 hk3 hk4 hk5) (by omega)
    exact pt11 k (Nat.le_refl _) 1 I L (by omega) (fun j hj => absurd hj (by omega)) (fun j _ hj => hBu j (by omega)) (fun _ _ _ => rfl) (fun _ _ _ => rfl) (h30.trans (by omega))
  · refine yi_D_if2 true rfl (yi_ne_t h1) ?_
    refine yi_D_run 4 (49, [(0, .inr (.inr (some 82)))], [.inr (.inr (some 82)), .inl 5, .inl 0, .inr (.inr (some 82))], (I, L, R, Y), 0, 0) (fun _ => rfl) ?_
    refine yi_D_gi (v := (u : Int)) rfl rfl rfl h30 (fun _ => ?_)
    refine yi_D_iadd rfl (5 + (u : Int)) (yi_wn (by omega) (by omega)) ?_
    refine yi_D_callv rfl (q_copies (a := 0) (b := 5 + u) hS h25 hn5 rfl (by omega) (by omega) (by omega) (by omega) hB0.1.1 hoS.1) ?_
    rintro _ ⟨I21, L22, rfl, c123, c224, c325, c426⟩
    show yi_D zi_Ms d zi_m67 k (56, [(0, .inr (.inr (some 82)))], [], (I21, L22, R, Y), 0, 0) _
    refine yi_D_run 2 (58, [(0, .inr (.inr (some 82)))], [.inr (.inr (some 82)), .inr (.inr (some 82))], (I21, L22, R, Y), 0, 0) (fun _ => rfl) ?_
    have r27 : I21 82 30 = (u : Int) := by rw [c224 82 30 (by omega), h30]
    refine yi_D_gi (v := (u : Int)) rfl rfl rfl r27 (fun _ => ?_)
    refine yi_D_run 1 (62, [(0, .inr (.inr (some 82)))], [.inl 1, .inl (u : Int), .inr (.inr (some 82))], (I21, L22, R, Y), 0, 0) (fun _ => rfl) ?_
    refine yi_D_iadd rfl ((u : Int) + 1) (yi_wn (by omega) (by omega)) ?_
    refine yi_D_pi rfl (fun _ => ?_)
    generalize w29 : yi_u I21 82 30 ((u : Int) + 1) = I28
    refine yi_D_retv rfl ?_
    have hun : us_n u = u + 1 := if_pos (by omega)
    refine ⟨_, _, rfl, by rw [← w29, yi_u_eq, hun]; omega, fun j hj => ?_, fun p i h => by rw [← w29, yi_u_ne _ _ (by omega)]; exact c224 p i (by omega), fun p i h => c426 p i (by omega)⟩
    rw [hun] at hj
    have hS3 : sm_B I21 L22 n P pr (5 + j) (us_p u U S j) → sm_B I28 L22 n P pr (5 + j) (us_p u U S j) := fun h => sm_B_c h ⟨hP24, hpr, ?_, ?_, hn5⟩ (fun k hk => by rw [← w29, yi_u_ne _ _ (by omega)]) (fun _ _ _ _ => rfl)
    · apply hS3
      unfold us_p
      rw [if_pos (show u < 16 by omega)]
      by_cases e : j = u
      · rw [if_pos e, e]; exact sm_B_c hB0 ⟨hP24, hpr, hoS.1, hoS.2, hn5⟩ c123 c325
      · rw [if_neg e]; exact sm_B_o (hBu j (by omega)) ⟨hP24, hpr, (hok j (by omega)).1, (hok j (by omega)).2, hn5⟩ (by omega) c224 c426
    · unfold us_p; rw [if_pos (show u < 16 by omega)]; by_cases e : j = u; rw [if_pos e]; exact hoS.1; rw [if_neg e]; exact (hok j (by omega)).1
    · unfold us_p; rw [if_pos (show u < 16 by omega)]; by_cases e : j = u; rw [if_pos e]; exact hoS.2; rw [if_neg e]; exact (hok j (by omega)).2
