/-! What a line of a land does to the class's land. -/
section CNU
variable {L L' : Nat → Nat → Int} {p : Nat} {n lo hi x v : Int} {nm : Int → Int}
theorem cs_N_add (h : cs_N L p n nm lo hi) (l0 : 0 ≤ lo) (e : L' p n.toNat = x) (f : ∀ k, k ≠ n.toNat → L' p k = L p k) (hw : sp_WR x v) (hv : nm v < 0) (hh : lo + n ≤ hi) : cs_N L' p (n + 1) (sp_un nm v (lo + n)) lo hi := by
  obtain ⟨h0, h1, h2⟩ := h
  refine ⟨by omega, fun i hi' => ?_, fun w a b => ?_⟩
  · by_cases c : (i : Int) = n
    · refine ⟨v, ?_, ?_⟩
      · rw [show i = n.toNat by omega, e]
        exact hw
      · show (if v = v then lo + n else nm v) = _
        rw [if_pos rfl]
        omega
    · obtain ⟨v', w', e'⟩ := h1 i (by omega)
      refine ⟨v', by rw [f i (by omega)]; exact w', ?_⟩
      show (if v' = v then lo + n else nm v') = _
      rw [if_neg]
      · exact e'
      · intro z
        rw [z] at e'
        omega
  · by_cases c : w = v
    · subst c
      have e1 : sp_un nm w (lo + n) w = lo + n := if_pos rfl
      rw [e1]
      refine ⟨by omega, ?_⟩
      rw [show (lo + n - lo).toNat = n.toNat by congr 1; omega, e]
      exact hw
    · have e1 : sp_un nm v (lo + n) w = nm w := if_neg c
      rw [e1] at a b ⊢
      obtain ⟨h3, h4⟩ := h2 w a b
      refine ⟨by omega, ?_⟩
      rw [f _ (by omega)]
      exact h4
theorem cs_N_oth {c : Int} (h : cs_N L p n nm lo hi) (l0 : 0 ≤ lo) (e : ∀ k, L' p k = L p k) (hv : nm v < 0) (hc : c < lo ∨ hi < c) : cs_N L' p n (sp_un nm v c) lo hi := by
  obtain ⟨h0, h1, h2⟩ := h
  refine ⟨h0, fun i hi' => ?_, fun w a b => ?_⟩
  · obtain ⟨v', w', e'⟩ := h1 i hi'
    refine ⟨v', by rw [e]; exact w', ?_⟩
    show (if v' = v then c else nm v') = _
    rw [if_neg]
    · exact e'
    · intro z
      rw [z] at e'
      omega
  · by_cases z : w = v
    · have e1 : sp_un nm v c w = c := if_pos z
      rw [e1] at a b
      omega
    · have e1 : sp_un nm v c w = nm w := if_neg z
      rw [e1] at a b ⊢
      rw [e]
      exact h2 w a b
end CNU
theorem sp_up_e (ld : Nat → Int) (k : Nat) (v : Int) : sp_up ld k v k = v := if_pos rfl
theorem sp_up_n (ld : Nat → Int) {k j : Nat} (v : Int) (h : j ≠ k) : sp_up ld k v j = ld j := if_neg h
theorem sp_un_le {nm : Int → Int} {v c : Int} (h : ∀ w, nm w ≤ 12) (hc : c ≤ 12) (w : Int) : sp_un nm v c w ≤ 12 := by
  show (if w = v then c else nm w) ≤ 12
  split
  · exact hc
  · exact h w
section CLD
variable {I L I' L' : Nat → Nat → Int} {R : Nat → Nat → Option Nat} {Y : (Nat → Nat) × (Nat → Nat) × Nat} {q : Nat} {ld : Nat → Int} {nm : Int → Int} {x v t : Int}
theorem cs_Ld_days (h : cs_Ld I L R Y q ld nm) (b : 1 ≤ v ∧ v ≤ 6) (e : I' q 14 = v) (f : ∀ p k, ¬ (p = q ∧ k = 14) → I' p k = I p k) : cs_Ld I' L R Y q (sp_up ld 0 v) nm := by
  obtain ⟨h1, h2, h3, h4, h5, h6, h7, h8⟩ := h
  have u : ∀ j, j ≠ 0 → sp_up ld 0 v j = ld j := fun j hj => sp_up_n ld v hj
  have u0 : sp_up ld 0 v 0 = v := sp_up_e ld 0 v
  refine ⟨h1, ?_, ?_, ?_, h5, ?_, fun i hi => ?_, fun i hi => ?_⟩
  · rw [u0, u 1 (by omega), u 2 (by omega), u 3 (by omega), u 4 (by omega), u 5 (by omega), f q 15 (by omega), f q 16 (by omega), f q 17 (by omega), f q 18 (by omega), f q 19 (by omega)]
    exact ⟨e, h2.2⟩
  · rw [u0, u 1 (by omega), u 2 (by omega), u 3 (by omega), u 4 (by omega), u 5 (by omega)]
    exact ⟨b, h3.2⟩
  · rw [u 6 (by omega), f q 13 (by omega)]
    exact h4
  · rw [u 1 (by omega), u 2 (by omega), u 3 (by omega)]
    exact h6
  · rw [u 1 (by omega)] at hi
    rw [u (7 + i) (by omega), f _ _ (by omega)]
    exact h7 i hi
  · rw [u 3 (by omega)] at hi
    rw [u (11 + 2 * i) (by omega), u (12 + 2 * i) (by omega), f _ _ (by omega), f _ _ (by omega)]
    exact h8 i hi
theorem cs_Ld_person (h : cs_Ld I L R Y q ld nm) (hw : sp_WR x v) (hv : nm v < 0) (h4 : ld 1 < 4) (e1 : I' q 15 = ld 1 + 1) (e2 : I' (q + 4) (ld 1).toNat = t) (e3 : L' (q + 1) (ld 1).toNat = x) (f : ∀ p k, ¬ (p = q ∧ k = 15) ∧ ¬ (p = q + 4 ∧ k = (ld 1).toNat) → I' p k = I p k) (f2 : ∀ p k, ¬ (p = q + 1 ∧ k = (ld 1).toNat) → L' p k = L p k) : cs_Ld I' L' R Y q (sp_up (sp_up ld (7 + (ld 1).toNat) t) 1 (ld 1 + 1)) (sp_un nm v (ld 1)) := by
  obtain ⟨g1, g2, g3, g4, g5, g6, g7, g8⟩ := h
  have u : ∀ j, j ≠ 1 → j ≠ 7 + (ld 1).toNat → sp_up (sp_up ld (7 + (ld 1).toNat) t) 1 (ld 1 + 1) j = ld j := fun j ha hb => by rw [sp_up_n _ _ ha, sp_up_n _ _ hb]
  have u1 : sp_up (sp_up ld (7 + (ld 1).toNat) t) 1 (ld 1 + 1) 1 = ld 1 + 1 := sp_up_e _ _ _
  have ut : sp_up (sp_up ld (7 + (ld 1).toNat) t) 1 (ld 1 + 1) (7 + (ld 1).toNat) = t := by rw [sp_up_n _ _ (by omega), sp_up_e]
  refine ⟨g1, ?_, ?_, ?_, sp_un_le g5 (by omega), ⟨?_, ?_, ?_⟩, fun i hi => ?_, fun i hi => ?_⟩
  · rw [u1, u 0 (by omega) (by omega), u 2 (by omega) (by omega), u 3 (by omega) (by omega), u 4 (by omega) (by omega), u 5 (by omega) (by omega), f q 14 (by omega), f q 16 (by omega), f q 17 (by omega), f q 18 (by omega), f q 19 (by omega)]
    exact ⟨g2.1, e1, g2.2.2⟩
  · rw [u1, u 0 (by omega) (by omega), u 2 (by omega) (by omega), u 3 (by omega) (by omega), u 4 (by omega) (by omega), u 5 (by omega) (by omega)]
    exact ⟨g3.1, by omega, g3.2.2⟩
  · rw [u 6 (by omega) (by omega), f q 13 (by omega)]
    exact g4
  · rw [u1]
    have z := cs_N_add g6.1 (by omega) e3 (fun k hk => f2 _ k (by omega)) hw hv (by omega)
    rw [Int.zero_add] at z
    exact z
  · rw [u 2 (by omega) (by omega)]
    exact cs_N_oth g6.2.1 (by omega) (fun k => f2 _ k (by omega)) hv (by omega)
  · rw [u 3 (by omega) (by omega)]
    exact cs_N_oth g6.2.2 (by omega) (fun k => f2 _ k (by omega)) hv (by omega)
  · rw [u1] at hi
    by_cases c : (i : Int) = ld 1
    · rw [show i = (ld 1).toNat by omega, ut]
      exact e2
    · rw [u _ (by omega) (by omega), f _ _ (by omega)]
      exact g7 i (by omega)
  · rw [u 3 (by omega) (by omega)] at hi
    rw [u _ (by omega) (by omega), u _ (by omega) (by omega), f _ _ (by omega), f _ _ (by omega)]
    exact g8 i hi
theorem cs_Ld_event (h : cs_Ld I L R Y q ld nm) (hw : sp_WR x v) (hv : nm v < 0) (h4 : ld 2 < 4) (e1 : I' q 16 = ld 2 + 1) (e3 : L' (q + 2) (ld 2).toNat = x) (f : ∀ p k, ¬ (p = q ∧ k = 16) → I' p k = I p k) (f2 : ∀ p k, ¬ (p = q + 2 ∧ k = (ld 2).toNat) → L' p k = L p k) : cs_Ld I' L' R Y q (sp_up ld 2 (ld 2 + 1)) (sp_un nm v (4 + ld 2)) := by
  obtain ⟨g1, g2, g3, g4, g5, g6, g7, g8⟩ := h
  have u : ∀ j, j ≠ 2 → sp_up ld 2 (ld 2 + 1) j = ld j := fun j ha => sp_up_n _ _ ha
  have u1 : sp_up ld 2 (ld 2 + 1) 2 = ld 2 + 1 := sp_up_e _ _ _
  refine ⟨g1, ?_, ?_, ?_, sp_un_le g5 (by omega), ⟨?_, ?_, ?_⟩, fun i hi => ?_, fun i hi => ?_⟩
  · rw [u1, u 0 (by omega), u 1 (by omega), u 3 (by omega), u 4 (by omega), u 5 (by omega), f q 14 (by omega), f q 15 (by omega), f q 17 (by omega), f q 18 (by omega), f q 19 (by omega)]
    exact ⟨g2.1, g2.2.1, e1, g2.2.2.2⟩
  · rw [u1, u 0 (by omega), u 1 (by omega), u 3 (by omega), u 4 (by omega), u 5 (by omega)]
    exact ⟨g3.1, g3.2.1, by omega, g3.2.2.2⟩
  · rw [u 6 (by omega), f q 13 (by omega)]
    exact g4
  · rw [u 1 (by omega)]
    exact cs_N_oth g6.1 (by omega) (fun k => f2 _ k (by omega)) hv (by omega)
  · rw [u1]
    exact cs_N_add g6.2.1 (by omega) e3 (fun k hk => f2 _ k (by omega)) hw hv (by omega)
  · rw [u 3 (by omega)]
    exact cs_N_oth g6.2.2 (by omega) (fun k => f2 _ k (by omega)) hv (by omega)
  · rw [u 1 (by omega)] at hi
    rw [u _ (by omega), f _ _ (by omega)]
    exact g7 i (by omega)
  · rw [u 3 (by omega)] at hi
    rw [u _ (by omega), u _ (by omega), f _ _ (by omega), f _ _ (by omega)]
    exact g8 i hi
theorem cs_Ld_prophet {s : Int} (h : cs_Ld I L R Y q ld nm) (hw : sp_WR x v) (hv : nm v < 0) (h4 : ld 3 < 5) (e1 : I' q 17 = ld 3 + 1) (e2 : I' (q + 5) (ld 3).toNat = s) (e4 : I' (q + 6) (ld 3).toNat = t) (e3 : L' (q + 3) (ld 3).toNat = x) (f : ∀ p k, ¬ (p = q ∧ k = 17) ∧ ¬ (p = q + 5 ∧ k = (ld 3).toNat) ∧ ¬ (p = q + 6 ∧ k = (ld 3).toNat) → I' p k = I p k) (f2 : ∀ p k, ¬ (p = q + 3 ∧ k = (ld 3).toNat) → L' p k = L p k) : cs_Ld I' L' R Y q (sp_up (sp_up (sp_up ld (11 + 2 * (ld 3).toNat) s) (12 + 2 * (ld 3).toNat) t) 3 (ld 3 + 1)) (sp_un nm v (8 + ld 3)) := by
  obtain ⟨g1, g2, g3, g4, g5, g6, g7, g8⟩ := h
  have u : ∀ j, j ≠ 3 → j ≠ 12 + 2 * (ld 3).toNat → j ≠ 11 + 2 * (ld 3).toNat → sp_up (sp_up (sp_up ld (11 + 2 * (ld 3).toNat) s) (12 + 2 * (ld 3).toNat) t) 3 (ld 3 + 1) j = ld j := fun j ha hb hc => by rw [sp_up_n _ _ ha, sp_up_n _ _ hb, sp_up_n _ _ hc]
  have u1 : sp_up (sp_up (sp_up ld (11 + 2 * (ld 3).toNat) s) (12 + 2 * (ld 3).toNat) t) 3 (ld 3 + 1) 3 = ld 3 + 1 := sp_up_e _ _ _
  have us : sp_up (sp_up (sp_up ld (11 + 2 * (ld 3).toNat) s) (12 + 2 * (ld 3).toNat) t) 3 (ld 3 + 1) (11 + 2 * (ld 3).toNat) = s := by rw [sp_up_n _ _ (by omega), sp_up_n _ _ (by omega), sp_up_e]
  have ut : sp_up (sp_up (sp_up ld (11 + 2 * (ld 3).toNat) s) (12 + 2 * (ld 3).toNat) t) 3 (ld 3 + 1) (12 + 2 * (ld 3).toNat) = t := by rw [sp_up_n _ _ (by omega), sp_up_e]
  refine ⟨g1, ?_, ?_, ?_, sp_un_le g5 (by omega), ⟨?_, ?_, ?_⟩, fun i hi => ?_, fun i hi => ?_⟩
  · rw [u1, u 0 (by omega) (by omega) (by omega), u 1 (by omega) (by omega) (by omega), u 2 (by omega) (by omega) (by omega), u 4 (by omega) (by omega) (by omega), u 5 (by omega) (by omega) (by omega), f q 14 (by omega), f q 15 (by omega), f q 16 (by omega), f q 18 (by omega), f q 19 (by omega)]
    exact ⟨g2.1, g2.2.1, g2.2.2.1, e1, g2.2.2.2.2⟩
  · rw [u1, u 0 (by omega) (by omega) (by omega), u 1 (by omega) (by omega) (by omega), u 2 (by omega) (by omega) (by omega), u 4 (by omega) (by omega) (by omega), u 5 (by omega) (by omega) (by omega)]
    exact ⟨g3.1, g3.2.1, g3.2.2.1, by omega, g3.2.2.2.2⟩
  · rw [u 6 (by omega) (by omega) (by omega), f q 13 (by omega)]
    exact g4
  · rw [u 1 (by omega) (by omega) (by omega)]
    exact cs_N_oth g6.1 (by omega) (fun k => f2 _ k (by omega)) hv (by omega)
  · rw [u 2 (by omega) (by omega) (by omega)]
    exact cs_N_oth g6.2.1 (by omega) (fun k => f2 _ k (by omega)) hv (by omega)
  · rw [u1]
    exact cs_N_add g6.2.2 (by omega) e3 (fun k hk => f2 _ k (by omega)) hw hv (by omega)
  · rw [u 1 (by omega) (by omega) (by omega)] at hi
    rw [u _ (by omega) (by omega) (by omega), f _ _ (by omega)]
    exact g7 i (by omega)
  · rw [u1] at hi
    by_cases c : (i : Int) = ld 3
    · rw [show i = (ld 3).toNat by omega, us, ut]
      exact ⟨e2, e4⟩
    · rw [u _ (by omega) (by omega) (by omega), u _ (by omega) (by omega) (by omega), f _ _ (by omega), f _ _ (by omega)]
      exact g8 i (by omega)
/-- a change of ints elsewhere in the land -/
theorem cs_Ld_oth {ld' : Nat → Int} {Rr : Nat → Nat → Option Nat} {Yy : (Nat → Nat) × (Nat → Nat) × Nat} (h : cs_Ld I L R Y q ld nm) (hR : ∀ p k, p < Y.2.2 ∧ ¬ (p = q ∧ k = 12) → Rr p k = R p k) (hY : ∀ p, p < Y.2.2 → Yy.2.1 p = Y.2.1 p) (hy : Y.2.2 ≤ Yy.2.2) (e0 : ∀ j, j < 4 → ld' j = ld j) (e4 : I' q 18 = ld' 4 ∧ 0 ≤ ld' 4 ∧ ld' 4 ≤ 4) (e5 : I' q 19 = ld' 5 ∧ 0 ≤ ld' 5 ∧ ld' 5 ≤ 6) (e6 : I' q 13 = 0 ↔ ld' 6 < 0) (e7 : ∀ j, 7 ≤ j → j < 21 → ld' j = ld j) (f : ∀ k, k = 14 ∨ k = 15 ∨ k = 16 ∨ k = 17 → I' q k = I q k) (f2 : ∀ k, I' (q + 4) k = I (q + 4) k ∧ I' (q + 5) k = I (q + 5) k ∧ I' (q + 6) k = I (q + 6) k) (f3 : ∀ p k, p < Y.2.2 → L' p k = L p k) : cs_Ld I' L' Rr Yy q ld' nm := by
  obtain ⟨g1, g2, g3, g4, g5, g6, g7, g8⟩ := h
  obtain ⟨k1, k2, k3, k4, k5, k6, k7⟩ := g1
  refine ⟨⟨k1, by rw [hR _ _ (by omega)]; exact k2, fun j hj => by rw [hR _ _ (by omega)]; exact k3 j hj, by rw [hY _ (by omega)]; exact k4, by rw [hY _ (by omega)]; exact k5, by rw [hY _ (by omega)]; exact k6, by omega⟩, ?_, ?_, e6, g5, ⟨?_, ?_, ?_⟩, fun i hi => ?_, fun i hi => ?_⟩
  · rw [f 14 (by omega), f 15 (by omega), f 16 (by omega), f 17 (by omega), e0 0 (by omega), e0 1 (by omega), e0 2 (by omega), e0 3 (by omega)]
    exact ⟨g2.1, g2.2.1, g2.2.2.1, g2.2.2.2.1, e4.1, e5.1⟩
  · rw [e0 0 (by omega), e0 1 (by omega), e0 2 (by omega), e0 3 (by omega)]
    exact ⟨g3.1, g3.2.1, g3.2.2.1, g3.2.2.2.1, e4.2, e5.2⟩
  · rw [e0 1 (by omega)]
    exact cs_N_t g6.1 (fun k => f3 _ k (by omega))
  · rw [e0 2 (by omega)]
    exact cs_N_t g6.2.1 (fun k => f3 _ k (by omega))
  · rw [e0 3 (by omega)]
    exact cs_N_t g6.2.2 (fun k => f3 _ k (by omega))
  · rw [e0 1 (by omega)] at hi
    have := g3.2.1
    rw [(f2 i).1, e7 _ (by omega) (by omega)]
    exact g7 i hi
  · rw [e0 3 (by omega)] at hi
    have := g3.2.2.2.1
    rw [(f2 i).2.1, (f2 i).2.2, e7 _ (by omega) (by omega), e7 _ (by omega) (by omega)]
    exact g8 i hi
end CLD
/-- what a line leaves -/
def cs_H (q : Nat) (I L : Nat → Nat → Int) (R : Nat → Nat → Option Nat) (Y : (Nat → Nat) × (Nat → Nat) × Nat) (I' L' : Nat → Nat → Int) (R' : Nat → Nat → Option Nat) (Y' : (Nat → Nat) × (Nat → Nat) × Nat) : Prop := (∀ p k, p < Y.2.2 → p ≠ 11 → p ≠ 19 → (p < q ∨ q + 14 ≤ p) → I' p k = I p k ∧ L' p k = L p k) ∧ (∀ p k, p < Y.2.2 ∧ ¬ (p = q ∧ k = 12) → R' p k = R p k) ∧ (Y.2.2 ≤ Y'.2.2 ∧ ∀ p, p < Y.2.2 → Y'.2.1 p = Y.2.1 p ∧ Y'.1 p = Y.1 p)
theorem cs_H_t {q : Nat} {I L I1 L1 I2 L2 : Nat → Nat → Int} {R R1 R2 : Nat → Nat → Option Nat} {Y Y1 Y2 : (Nat → Nat) × (Nat → Nat) × Nat} (h : cs_H q I L R Y I1 L1 R1 Y1) (h2 : cs_H q I1 L1 R1 Y1 I2 L2 R2 Y2) : cs_H q I L R Y I2 L2 R2 Y2 := by
  obtain ⟨a1, a2, a3, a4⟩ := h
  obtain ⟨b1, b2, b3, b4⟩ := h2
  refine ⟨fun p k c d e f => ?_, fun p k c => ?_, by omega, fun p c => ?_⟩
  · have x := a1 p k c d e f
    have y := b1 p k (by omega) d e f
    exact ⟨y.1.trans x.1, y.2.trans x.2⟩
  · exact (b2 p k (by omega)).trans (a2 p k c)
  · have x := a4 p c
    have y := b4 p (by omega)
    exact ⟨y.1.trans x.1, y.2.trans x.2⟩
theorem cs_H_F {q : Nat} {I L I1 L1 : Nat → Nat → Int} {R : Nat → Nat → Option Nat} {Y : (Nat → Nat) × (Nat → Nat) × Nat} (h : cs_F I L I1 L1) : cs_H q I L R Y I1 L1 R Y := ⟨fun p k _ a b _ => ⟨h.1 p k a b, h.2 p k a⟩, fun _ _ _ => rfl, Nat.le_refl _, fun _ _ => ⟨rfl, rfl⟩⟩
section CFIN
variable {I L I1 L1 I2 L2 : Nat → Nat → Int} {R R2 : Nat → Nat → Option Nat} {Y Y2 : (Nat → Nat) × (Nat → Nat) × Nat} {K P V : Nat → Int} {te q a : Nat} {ld ld' : Nat → Int} {nm nm' : Int → Int}
theorem cs_fin (hF : cs_F I L I1 L1) (hW : cs_W I1 L1 R Y K P V te q ld nm) (hf : I1 11 11 = 0) (hA : cs_A I1 L1 K te a) (h1 : ∀ p k, p < Y.2.2 → (p < q ∨ q + 14 ≤ p) → I2 p k = I1 p k ∧ L2 p k = L1 p k) (hR : ∀ p k, p < Y.2.2 ∧ ¬ (p = q ∧ k = 12) → R2 p k = R p k) (hY : Y.2.2 ≤ Y2.2.2 ∧ ∀ p, p < Y.2.2 → Y2.2.1 p = Y.2.1 p ∧ Y2.1 p = Y.1 p) (hL : cs_Ld I2 L2 R2 Y2 q ld' nm') : cs_H q I L R Y I2 L2 R2 Y2 ∧ I2 11 11 = 0 ∧ cs_A I2 L2 K te a ∧ cs_W I2 L2 R2 Y2 K P V te q ld' nm' := by
  obtain ⟨hS, hT, hLd⟩ := hW
  have q0 := hLd.1.1
  have q1 := hLd.1.2.2.2.2.2.2
  have i1 : ∀ p k, p < 20 → I2 p k = I1 p k := fun p k hp => (h1 p k (by omega) (by omega)).1
  have l1 : ∀ p k, p < 20 → L2 p k = L1 p k := fun p k hp => (h1 p k (by omega) (by omega)).2
  refine ⟨cs_H_t (cs_H_F hF) ⟨fun p k c d e f => h1 p k c f, hR, hY⟩, by rw [i1 _ _ (by omega)]; exact hf, ?_, ?_, ?_, hL⟩
  · obtain ⟨x1, x2, x3, x4⟩ := hA
    exact ⟨by rw [i1 _ _ (by omega)]; exact x1, x2, by rw [i1 _ _ (by omega)]; exact x3, by rw [l1 _ _ (by omega), l1 _ _ (by omega)]; exact x4⟩
  · obtain ⟨⟨s1, s2, s3⟩, ⟨t1, t2, t3, t4, t5⟩, u1, u2, u3, u4, u5, u6, u7⟩ := hS
    have r : ∀ p k, p < 20 → R2 p k = R p k := fun p k hp => hR p k (by omega)
    have y : ∀ p, p < 20 → Y2.2.1 p = Y.2.1 p := fun p hp => (hY.2 p (by omega)).1
    unfold cs_S
    rw [r 11 0 (by omega), r 11 1 (by omega), r 11 2 (by omega), r 12 0 (by omega), r 12 1 (by omega), r 12 2 (by omega), r 12 3 (by omega), r 12 4 (by omega), y 13 (by omega), y 14 (by omega), y 15 (by omega), y 16 (by omega), y 17 (by omega), y 18 (by omega), y 19 (by omega)]
    exact ⟨⟨s1, s2, s3⟩, ⟨t1, t2, t3, t4, t5⟩, u1, u2, u3, u4, u5, u6, u7⟩
  · obtain ⟨x1, x2, x3, x4⟩ := hT
    refine ⟨x1, by rw [i1 _ _ (by omega)]; exact x2, fun i hi => ?_, ?_⟩
    · rw [i1 14 _ (by omega), i1 15 _ (by omega), l1 16 _ (by omega)]
      exact x3 i hi
    · rw [l1 18 0 (by omega), l1 18 1 (by omega), l1 18 2 (by omega)]
      exact x4
theorem cs_Ld_ld (h : cs_Ld I L R Y q ld nm) (e : ∀ j, j < 21 → ld' j = ld j) : cs_Ld I L R Y q ld' nm := cs_Ld_oth h (fun _ _ _ => rfl) (fun _ _ => rfl) (Nat.le_refl _) (fun j hj => e j (by omega)) (by rw [e 4 (by omega)]; exact ⟨h.2.1.2.2.2.2.1, h.2.2.1.2.2.2.2.1⟩) (by rw [e 5 (by omega)]; exact ⟨h.2.1.2.2.2.2.2, h.2.2.1.2.2.2.2.2⟩) (by rw [e 6 (by omega)]; exact h.2.2.2.1) (fun j _ b => e j b) (fun _ _ => rfl) (fun _ => ⟨rfl, rfl, rfl⟩) (fun _ _ _ => rfl)
theorem cs_W_ld (h : cs_W I L R Y K P V te q ld nm) (e : ∀ j, j < 21 → ld' j = ld j) : cs_W I L R Y K P V te q ld' nm := ⟨h.1, h.2.1, cs_Ld_ld h.2.2 e⟩
end CFIN
def cs_QL (I L : Nat → Nat → Int) (R : Nat → Nat → Option Nat) (Y : (Nat → Nat) × (Nat → Nat) × Nat) (K P V : Nat → Int) (te : Nat) (c : sp_C) (q a : Nat) (r : yi_R) : Prop := ∃ I' L' R' Y' n m, r = (none, (I', L', R', Y'), n, m) ∧ cs_H q I L R Y I' L' R' Y' ∧ ((∃ a' ld' nm' cs', sp_R K P V c (.inl (2, a', 0, [], ld', nm', cs')) ∧ a < a' ∧ I' 11 11 = 0 ∧ cs_A I' L' K te a' ∧ cs_W I' L' R' Y' K P V te q ld' nm') ∨ (∃ f, sp_R K P V c (.inr f) ∧ ¬ f = 0 ∧ I' 11 11 = f))
