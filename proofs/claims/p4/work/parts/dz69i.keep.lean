/-! The class: what a call that only answers leaves. -/
/-- what answering calls use for themselves -/
def qs_S (R : Nat → Nat → Option Nat) (p : Nat) : Prop := (11 ≤ p ∧ p ≤ 19) ∨ (p = 41 ∨ p = 43 ∨ p = 44 ∨ p = 45 ∨ p = 46 ∨ p = 47 ∨ p = 49 ∨ p = 60 ∨ p = 62 ∨ p = 64 ∨ p = 65 ∨ p = 66 ∨ p = 67) ∨ (R 60 0 = some p ∨ R 62 0 = some p ∨ R 41 0 = some p ∨ R 46 1 = some p)
def qs_dec (R : Nat → Nat → Option Nat) (p : Nat) : Decidable (qs_S R p) := by unfold qs_S; exact inferInstance
def qk_dec (R : Nat → Nat → Option Nat) (Y : (Nat → Nat) × (Nat → Nat) × Nat) (p : Nat) : Decidable (10 ≤ p ∧ p < Y.2.2 ∧ ¬ qs_S R p) := haveI := qs_dec R p; inferInstance
/-- all else -/
def qk (R : Nat → Nat → Option Nat) (Y : (Nat → Nat) × (Nat → Nat) × Nat) (p : Nat) : Bool := @decide _ (qk_dec R Y p)
theorem qk_e {R : Nat → Nat → Option Nat} {Y : (Nat → Nat) × (Nat → Nat) × Nat} {p : Nat} (h : qk R Y p = true) : 10 ≤ p ∧ p < Y.2.2 ∧ ¬ qs_S R p := @of_decide_eq_true _ (qk_dec R Y p) h
theorem qk_m {R : Nat → Nat → Option Nat} {Y : (Nat → Nat) × (Nat → Nat) × Nat} {p : Nat} (h : 10 ≤ p ∧ p < Y.2.2 ∧ ¬ qs_S R p) : qk R Y p = true := @decide_eq_true _ (qk_dec R Y p) h
/-- fields that hold references -/
def rk (c k : Nat) : Bool := match c with
  | 0 => Nat.ble k 16
  | 1 => Nat.ble k 2 || Nat.beq k 6
  | 2 => Nat.ble k 4
  | 3 => Nat.ble k 12
  | 4 => Nat.beq k 0 || (Nat.beq k 1 || (Nat.ble 3 k && Nat.ble k 6))
  | 5 => Nat.beq k 0
  | 6 => Nat.beq k 0
  | 7 => Nat.ble k 1
  | 9 => Nat.ble k 5
  | 10 => Nat.beq k 3
  | 11 => true
  | _ => false
theorem rk_s {c k : Nat} (h : kn_s c k = true) (hc : c < 20) : rk c k = true := by
  have key : ∀ c : Nat, c < 20 → ∀ k : Nat, k < 64 → yi_fit (zi_ty c k) (.inr (.inr none)) = true → rk c k = true := by decide +kernel
  have key2 : ∀ c : Nat, c < 20 → (zi_Fs.getD c ("", [])).2.length ≤ 64 := by decide +kernel
  unfold kn_s at h
  have h24 : Nat.ble 24 c = false := by
    cases e : Nat.ble 24 c with
    | false => rfl
    | true => have := Nat.le_of_ble_eq_true e; omega
  rw [h24, Bool.false_and, Bool.false_or, Bool.and_eq_true] at h
  by_cases hk : k < 64
  · exact key c hc k hk h.2
  · have e : zi_ty c k = .int := by
      unfold zi_ty
      rw [List.getD_eq_getElem?_getD, List.getElem?_eq_none (by have := key2 c hc; omega)]
      rfl
    have h2 := h.2
    rw [e] at h2
    cases h2
section QK
variable {R : Nat → Nat → Option Nat} {Y : (Nat → Nat) × (Nat → Nat) × Nat}
theorem qk_I (hA : at_T R Y) (hn : kn_K R Y) (hz : cz_K R Y) (hcan : ∀ q, R 46 1 = some q → 20 ≤ Y.1 q) : ca_I (qk R Y) R Y := by
  have hN := hA.2.2.2
  refine ⟨fun q h => (qk_e h).1, fun I L => ⟨fun p k q hp e => ?_, fun p k h => absurd h Bool.false_ne_true, fun q h => (qk_e h).2.1, (show 10 ≤ Y.2.2 by omega)⟩⟩
  have hp : p < Y.2.2 := hp
  have e : R p k = some q := e
  obtain ⟨s1, s2, s3⟩ := kn_slot hn hp e
  refine ⟨s1, fun hq => ?_⟩
  obtain ⟨q1, q2, q3⟩ := qk_e hq
  show (qk R Y p = true ∧ ca_gk (Y.1 p) k = true) ∨ ca_fg (Y.1 p) k = true ∨ (true = true ∧ 20 ≤ Y.1 p)
  by_cases c20 : 20 ≤ Y.1 p
  · exact Or.inr (Or.inr ⟨rfl, c20⟩)
  have r := rk_s s3 (by omega)
  by_cases hs : qs_S R p
  · rcases hs with h | h | h
    · have h : p = 11 ∨ p = 12 ∨ p = 13 ∨ p = 14 ∨ p = 15 ∨ p = 16 ∨ p = 17 ∨ p = 18 ∨ p = 19 := by omega
      rcases h with rfl | rfl | rfl | rfl | rfl | rfl | rfl | rfl | rfl
      · have c : Y.1 11 = 1 := at_k hA (j := 1) rfl
        rw [c] at r ⊢
        have hk : k = 0 ∨ k = 1 ∨ k = 2 ∨ k = 6 := by
          have r : (Nat.ble k 2 || Nat.beq k 6) = true := r
          rw [Bool.or_eq_true] at r
          rcases r with r | r
          · have := Nat.le_of_ble_eq_true r; omega
          · have := Nat.eq_of_beq_eq_true r; omega
        rcases hk with rfl | rfl | rfl | rfl
        · rw [at_r hA (j := 16) rfl] at e
          cases e
          exact absurd (Or.inl (by omega)) q3
        · rw [at_r hA (j := 17) rfl] at e
          cases e
          exact absurd (Or.inl (by omega)) q3
        · rw [at_r hA (j := 18) rfl] at e
          cases e
          exact absurd (Or.inl (by omega)) q3
        · exact Or.inr (Or.inl rfl)
      · have c : Y.1 12 = 2 := at_k hA (j := 2) rfl
        rw [c] at r
        have hk : k = 0 ∨ k = 1 ∨ k = 2 ∨ k = 3 ∨ k = 4 := by
          have := Nat.le_of_ble_eq_true (show Nat.ble k 4 = true from r)
          omega
        rcases hk with rfl | rfl | rfl | rfl | rfl
        · rw [at_r hA (j := 19) rfl] at e
          cases e
          exact absurd (Or.inl (by omega)) q3
        · rw [at_r hA (j := 20) rfl] at e
          cases e
          exact absurd (Or.inl (by omega)) q3
        · rw [at_r hA (j := 21) rfl] at e
          cases e
          exact absurd (Or.inl (by omega)) q3
        · rw [at_r hA (j := 22) rfl] at e
          cases e
          exact absurd (Or.inl (by omega)) q3
        · rw [at_r hA (j := 23) rfl] at e
          cases e
          exact absurd (Or.inl (by omega)) q3
      · have c : Y.1 13 = 23 := at_nk hA (j := 0) rfl
        omega
      · have c : Y.1 14 = 20 := at_nk hA (j := 1) rfl
        omega
      · have c : Y.1 15 = 20 := at_nk hA (j := 2) rfl
        omega
      · have c : Y.1 16 = 21 := at_nk hA (j := 3) rfl
        omega
      · have c : Y.1 17 = 21 := at_nk hA (j := 4) rfl
        omega
      · have c : Y.1 18 = 21 := at_nk hA (j := 5) rfl
        omega
      · have c : Y.1 19 = 20 := at_nk hA (j := 6) rfl
        omega
    · rcases h with rfl | rfl | rfl | rfl | rfl | rfl | rfl | rfl | rfl | rfl | rfl | rfl | rfl
      · have c : Y.1 41 = 5 := at_k hA (j := 6) rfl
        rw [c] at r
        obtain rfl : k = 0 := Nat.eq_of_beq_eq_true (show Nat.beq k 0 = true from r)
        exact absurd (Or.inr (Or.inr (Or.inr (Or.inr (Or.inl e))))) q3
      · have c : Y.1 43 = 21 := at_nk hA (j := 9) rfl
        omega
      · have c : Y.1 44 = 6 := at_k hA (j := 7) rfl
        rw [c] at r
        obtain rfl : k = 0 := Nat.eq_of_beq_eq_true (show Nat.beq k 0 = true from r)
        rw [at_r hA (j := 30) rfl] at e
        cases e
        exact absurd (Or.inr (Or.inl (by omega))) q3
      · have c : Y.1 45 = 20 := at_nk hA (j := 10) rfl
        omega
      · have c : Y.1 46 = 7 := at_k hA (j := 8) rfl
        rw [c] at r
        have hk : k = 0 ∨ k = 1 := by
          have := Nat.le_of_ble_eq_true (show Nat.ble k 1 = true from r)
          omega
        rcases hk with rfl | rfl
        · rw [at_r hA (j := 31) rfl] at e
          cases e
          exact absurd (Or.inr (Or.inl (by omega))) q3
        · exact absurd (Or.inr (Or.inr (Or.inr (Or.inr (Or.inr (e)))))) q3
      · have c : Y.1 47 = 24 := at_nk hA (j := 11) rfl
        omega
      · have c : Y.1 49 = 8 := at_k hA (j := 9) rfl
        rw [c] at r
        cases r
      · have c : Y.1 60 = 5 := at_k hA (j := 12) rfl
        rw [c] at r
        obtain rfl : k = 0 := Nat.eq_of_beq_eq_true (show Nat.beq k 0 = true from r)
        exact absurd (Or.inr (Or.inr (Or.inl e))) q3
      · have c : Y.1 62 = 5 := at_k hA (j := 13) rfl
        rw [c] at r
        obtain rfl : k = 0 := Nat.eq_of_beq_eq_true (show Nat.beq k 0 = true from r)
        exact absurd (Or.inr (Or.inr (Or.inr (Or.inl e)))) q3
      · have c : Y.1 64 = 20 := at_nk hA (j := 19) rfl
        omega
      · have c : Y.1 65 = 20 := at_nk hA (j := 20) rfl
        omega
      · have c : Y.1 66 = 20 := at_nk hA (j := 21) rfl
        omega
      · have c : Y.1 67 = 22 := at_nk hA (j := 22) rfl
        omega
    · rcases h with h | h | h | h
      · have c : Y.1 p = 21 := (cz_Kj hz (by omega) (at_k hA (j := 12) rfl) h).2.1.2.1
        omega
      · have c : Y.1 p = 21 := (cz_Kj hz (by omega) (at_k hA (j := 13) rfl) h).2.1.2.1
        omega
      · have c : Y.1 p = 21 := (cz_Kj hz (by omega) (at_k hA (j := 6) rfl) h).2.1.2.1
        omega
      · have c := hcan p h
        omega
  · refine Or.inl ⟨qk_m ⟨s2, hp, hs⟩, ?_⟩
    generalize hc : Y.1 p = c at r c20 ⊢
    match c, hc, r with
    | 0, hc, r =>
      obtain rfl : p = 10 := Nat.eq_of_beq_eq_true (show Nat.beq p 10 = true from kn_one hn s2 hp hc)
      have hk : k = 0 ∨ k = 1 ∨ k = 2 ∨ k = 3 ∨ k = 4 ∨ k = 5 ∨ k = 6 ∨ k = 7 ∨ k = 8 ∨ k = 9 ∨ k = 10 ∨ k = 11 ∨ k = 12 ∨ k = 13 ∨ k = 14 ∨ k = 15 ∨ k = 16 := by
        have := Nat.le_of_ble_eq_true (show Nat.ble k 16 = true from r)
        omega
      rcases hk with rfl | rfl | rfl | rfl | rfl | rfl | rfl | rfl | rfl | rfl | rfl | rfl | rfl | rfl | rfl | rfl | rfl
      · rw [at_r hA (j := 0) rfl] at e
        cases e
        exact absurd (Or.inl (by omega)) q3
      · rw [at_r hA (j := 1) rfl] at e
        cases e
        exact absurd (Or.inl (by omega)) q3
      · rfl
      · rw [at_r hA (j := 3) rfl] at e
        cases e
        exact absurd (Or.inr (Or.inl (by omega))) q3
      · rw [at_r hA (j := 4) rfl] at e
        cases e
        exact absurd (Or.inr (Or.inl (by omega))) q3
      · rw [at_r hA (j := 5) rfl] at e
        cases e
        exact absurd (Or.inr (Or.inl (by omega))) q3
      · rfl
      · rfl
      · rfl
      · rfl
      · rw [at_r hA (j := 10) rfl] at e
        cases e
        exact absurd (Or.inr (Or.inl (by omega))) q3
      · rw [at_r hA (j := 11) rfl] at e
        cases e
        exact absurd (Or.inr (Or.inl (by omega))) q3
      · rw [at_r hA (j := 12) rfl] at e
        cases e
        exact absurd (Or.inr (Or.inl (by omega))) q3
      · rw [at_r hA (j := 13) rfl] at e
        cases e
        exact absurd (Or.inr (Or.inl (by omega))) q3
      · rw [at_r hA (j := 14) rfl] at e
        cases e
        exact absurd (Or.inr (Or.inl (by omega))) q3
      · rw [at_r hA (j := 15) rfl] at e
        cases e
        exact absurd (Or.inr (Or.inl (by omega))) q3
      · rfl
    | 4, hc, r =>
      obtain rfl : p = 34 := Nat.eq_of_beq_eq_true (show Nat.beq p 34 = true from kn_one hn s2 hp hc)
      have hk : k = 0 ∨ k = 1 ∨ k = 3 ∨ k = 4 ∨ k = 5 ∨ k = 6 := by
        have r : (Nat.beq k 0 || (Nat.beq k 1 || (Nat.ble 3 k && Nat.ble k 6))) = true := r
        rw [Bool.or_eq_true, Bool.or_eq_true, Bool.and_eq_true] at r
        rcases r with r | r | r
        · have := Nat.eq_of_beq_eq_true r; omega
        · have := Nat.eq_of_beq_eq_true r; omega
        · have := Nat.le_of_ble_eq_true r.1; have := Nat.le_of_ble_eq_true r.2; omega
      rcases hk with rfl | rfl | rfl | rfl | rfl | rfl
      · rfl
      · rfl
      · rfl
      · rfl
      · rw [at_r hA (j := 28) rfl] at e
        cases e
        exact absurd (Or.inr (Or.inl (by omega))) q3
      · rw [at_r hA (j := 29) rfl] at e
        cases e
        exact absurd (Or.inr (Or.inl (by omega))) q3
    | 1, _, _ => rfl
    | 2, _, _ => rfl
    | 3, _, _ => rfl
    | c + 5, _, _ => rfl
theorem fx_I (hA : at_T R Y) (hn : kn_K R Y) : fx_K R Y := by
  have hN := hA.2.2.2
  intro I L
  obtain ⟨z1, -, -, z4, -⟩ := hn I L
  refine ⟨fun p k q hp e => ⟨(z1 p k q hp e).1, fun h => absurd h Bool.false_ne_true⟩, fun p k h => ?_, fun q h => absurd h Bool.false_ne_true, z4⟩
  show fx_fp (Y.1 p) k = true ∧ p < Y.2.2
  unfold fx_ps at h
  rw [Bool.or_eq_true, Bool.or_eq_true, Bool.or_eq_true, Bool.or_eq_true, Bool.or_eq_true, Bool.or_eq_true, Bool.and_eq_true, Bool.and_eq_true, Bool.and_eq_true, Bool.and_eq_true, Bool.and_eq_true, Bool.and_eq_true, Bool.and_eq_true] at h
  rcases h with ⟨h, h2⟩ | ⟨h, h2⟩ | ⟨h, h2⟩ | ⟨h, h2⟩ | ⟨h, h2⟩ | ⟨h, h2⟩ | ⟨h, h2⟩
  · obtain rfl := Nat.eq_of_beq_eq_true h
    rw [show Y.1 10 = 0 from at_k hA (j := 0) rfl]
    refine ⟨?_, by omega⟩
    unfold fx_fp
    rw [h2]
    simp
  · obtain rfl := Nat.eq_of_beq_eq_true h
    rw [show Y.1 11 = 1 from at_k hA (j := 1) rfl]
    refine ⟨?_, by omega⟩
    unfold fx_fp
    rw [h2]
    simp
  · obtain rfl := Nat.eq_of_beq_eq_true h
    rw [show Y.1 12 = 2 from at_k hA (j := 2) rfl]
    refine ⟨?_, by omega⟩
    unfold fx_fp
    rw [h2]
    simp
  · obtain rfl := Nat.eq_of_beq_eq_true h
    rw [show Y.1 34 = 4 from at_k hA (j := 3) rfl]
    refine ⟨?_, by omega⟩
    unfold fx_fp
    rw [h2]
    simp
  · obtain rfl := Nat.eq_of_beq_eq_true h
    rw [show Y.1 44 = 6 from at_k hA (j := 7) rfl]
    refine ⟨?_, by omega⟩
    unfold fx_fp
    rw [h2]
    simp
  · obtain rfl := Nat.eq_of_beq_eq_true h
    rw [show Y.1 46 = 7 from at_k hA (j := 8) rfl]
    refine ⟨?_, by omega⟩
    unfold fx_fp
    rw [h2]
    simp
  · obtain rfl := Nat.eq_of_beq_eq_true h
    rw [show Y.1 50 = 9 from at_k hA (j := 10) rfl]
    refine ⟨?_, by omega⟩
    unfold fx_fp
    rw [h2]
    simp
/-- an answering call: all but its own places stay -/
theorem q_keep {d mi : Nat} {vs : List yi_V} {I L : Nat → Nat → Int} (hA : at_T R Y) (hn : kn_K R Y) (hz : cz_K R Y) (hcan : ∀ q, R 46 1 = some q → 20 ≤ Y.1 q) (h1 : ca_ff mi = true) (h2 : kn_ff mi = true) (h3 : cz_ff mi = true) (h4 : fx_ff mi = true) (hv1 : ct_vs (qk R Y) Y.2.2 (ca_da mi) vs) (hv : ∀ v ∈ vs, ∀ q, v = .inr (.inr (some q)) → q < Y.2.2) (hl : vs.length = (cz_da mi).length) : yi_P zi_Ms d mi vs (I, L, R, Y) (fun r => (ca_H (qk R Y) I L R Y r.2.1.1 r.2.1.2.1 r.2.1.2.2.1 r.2.1.2.2.2 ∧ at_T r.2.1.2.2.1 r.2.1.2.2.2) ∧ kn_K r.2.1.2.2.1 r.2.1.2.2.2 ∧ cz_K r.2.1.2.2.1 r.2.1.2.2.2) := by
  refine (yi_P_a (yi_P_a (ca_P (qk_I hA hn hz hcan) h1 hv1) (fx_P (fx_I hA hn) h4 hv)) (yi_P_a (kn_P hn h2 hv) (cz_P hz h3 (cy_ve hl hv)))).imp (fun r ⟨⟨a, b⟩, c, e⟩ => ⟨⟨a, ?_⟩, c, e⟩)
  have key : ∀ x ∈ at_L, fx_ps x.1 x.2.1 = true := by decide
  exact at_T_t hA (fun x hx => (b _ _ (key x hx)).2) a.2.2.2 a.2.2.1
end QK
