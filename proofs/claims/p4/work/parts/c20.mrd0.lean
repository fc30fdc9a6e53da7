/-! The check's reader: what lies where while a text is read. -/
def sp_W37 : List Int := [204925, 1119812451, 1014885, 10492554, 42328747790, 31075639, 16488, 1178051, 8787, 30910767, 983428, 1825, 1937619241514, 2286271, 569, 99, 329128, 283586, 26521840, 37957098, 679747, 30596128, 41292560, 325020, 14032772, 59361325568, 19741, 1891, 573, 148383843, 2205662, 1034043]
/-- the kind of a word -/
def sp_wk (v : Int) : Int := match (sp_W37.take 29).findIdx? (fun x => decide (x = v)) with
  | some j => 4 + j
  | none => 3
/-- the kind of a token of the check -/
def sp_k (s v : Int) : Int := if s = 0 then 0 else if s = 4 then 1 else if s = 2 then 2 else if s = 3 then v else sp_wk v
theorem sp_wk_iff {v : Int} {w : Nat} (hw : w < 29) : sp_wk v = 4 + (w : Int) ↔ v = sp_W37.getD w 0 := by
  have key : ∀ j : Fin 29, ∀ i : Fin 29, sp_W37.getD j 0 = sp_W37.getD i 0 → j = i := by decide +kernel
  unfold sp_wk
  constructor
  · intro h
    split at h
    · rename_i j e
      have hj : j = w := by omega
      subst hj
      rw [List.findIdx?_eq_some_iff_getElem] at e
      obtain ⟨h1, h2, _⟩ := e
      have h2 := of_decide_eq_true h2
      rw [List.getElem_take] at h2
      rw [← h2, List.getD_eq_getElem?_getD, List.getElem?_eq_getElem (by have : sp_W37.length = 32 := rfl; omega)]
      rfl
    · omega
  · intro h
    have hm : (sp_W37.take 29).findIdx? (fun x => decide (x = v)) = some w := by
      rw [List.findIdx?_eq_some_iff_getElem]
      have hl : (sp_W37.take 29).length = 29 := rfl
      refine ⟨by omega, ?_, fun j hj => ?_⟩
      · rw [List.getElem_take]
        refine decide_eq_true ?_
        rw [h, List.getD_eq_getElem?_getD, List.getElem?_eq_getElem (by have : sp_W37.length = 32 := rfl; omega)]
        rfl
      · rw [List.getElem_take]
        intro c
        have c := of_decide_eq_true c
        have z := key ⟨j, by omega⟩ ⟨w, hw⟩ (by
          show sp_W37.getD j 0 = sp_W37.getD w 0
          rw [← h, ← c, List.getD_eq_getElem?_getD, List.getElem?_eq_getElem (by have : sp_W37.length = 32 := rfl; omega)]
          rfl)
        have : j = w := congrArg Fin.val z
        omega
    rw [hm]
theorem sp_wk_b (v : Int) : 3 ≤ sp_wk v ∧ sp_wk v ≤ 32 := by
  unfold sp_wk
  split
  · rename_i j e
    rw [List.findIdx?_eq_some_iff_getElem] at e
    obtain ⟨h1, _⟩ := e
    have hl : (sp_W37.take 29).length = 29 := rfl
    omega
  · omega
/-- names of the check -/
def mt_N (I L : Nat → Nat → Int) (pn po : Nat) (m : Int) (nm : Int → Int) : Prop := (0 ≤ m ∧ m ≤ 13) ∧ (∀ k : Nat, (k : Int) < m → nm (L pn k) = I po k ∧ 0 ≤ I po k ∧ I po k ≤ 12) ∧ (∀ v, (∀ k : Nat, (k : Int) < m → ¬ L pn k = v) → nm v = -1)
/-- the tokens of the check -/
def mt_T (I L : Nat → Nat → Int) (K P V : Nat → Int) (te : Nat) : Prop := te ≤ 1000 ∧ (∀ i : Nat, i ≤ te → sp_k (I 84 i) (L 86 i) = K i ∧ I 85 i = P i ∧ (0 ≤ P i ∧ P i ≤ 1000) ∧ (K i = 2 → L 86 i = V i ∧ 0 ≤ V i ∧ V i ≤ 9999) ∧ (K i = 3 → L 86 i = V i) ∧ (K i = 0 ↔ i = te) ∧ (0 ≤ I 84 i ∧ I 84 i ≤ 4) ∧ (I 84 i = 3 → 33 ≤ L 86 i)) ∧ (∀ w : Nat, w < 32 → L 87 w = sp_W37.getD w 0)
def mt_Ld (I L : Nat → Nat → Int) (b : Nat) (ld : Nat → Int) (nm : Int → Int) : Prop := (I 82 20 = (b : Int) ∧ ((b = 50 ∧ mt_N I L 92 94 (I 82 19) nm) ∨ (b = 0 ∧ mt_N I L 91 93 (I 82 18) nm))) ∧ (∀ j, j < 6 → I 88 (b + j) = ld j) ∧ (I 88 (b + 6) < 0 → ld 6 < 0) ∧ (∀ j, 7 ≤ j → j < 21 → I 88 (b + j) = ld j) ∧ ((0 ≤ ld 0 ∧ ld 0 ≤ 6) ∧ (0 ≤ ld 1 ∧ ld 1 ≤ 4) ∧ (0 ≤ ld 2 ∧ ld 2 ≤ 4) ∧ (0 ≤ ld 3 ∧ ld 3 ≤ 5) ∧ (0 ≤ ld 4 ∧ ld 4 ≤ 4) ∧ (0 ≤ ld 5 ∧ ld 5 ≤ 6)) ∧ (0 ≤ I 82 13 ∧ I 82 13 ≤ 1100)
def mt_W (I L : Nat → Nat → Int) (R : Nat → Nat → Option Nat) (Y : (Nat → Nat) × (Nat → Nat) × Nat) (K P V : Nat → Int) (te b : Nat) (ld : Nat → Int) (nm : Int → Int) : Prop := ym_S (R, Y) ∧ mt_T I L K P V te ∧ mt_Ld I L b ld nm
/-- what reading a formula leaves -/
def mt_F (I I' : Nat → Nat → Int) : Prop := (∀ p k, ¬ (p = 82 ∧ (k = 7 ∨ k = 8 ∨ k = 13)) ∧ ¬ (p = 89 ∧ 1100 ≤ k) ∧ ¬ (p = 90 ∧ 1100 ≤ k) → I' p k = I p k) ∧ (0 ≤ I 82 13 ∧ I 82 13 ≤ 1100 → 0 ≤ I' 82 13 ∧ I' 82 13 ≤ 1100)
theorem mt_F_r (I : Nat → Nat → Int) : mt_F I I := ⟨fun _ _ _ => rfl, fun z => z⟩
theorem mt_F_t {I I' I2 : Nat → Nat → Int} (h : mt_F I I') (h2 : mt_F I' I2) : mt_F I I2 := ⟨fun p k a => (h2.1 p k a).trans (h.1 p k a), fun z => h2.2 (h.2 z)⟩
section MTW
variable {I L I' : Nat → Nat → Int} {R : Nat → Nat → Option Nat} {Y : (Nat → Nat) × (Nat → Nat) × Nat} {K P V : Nat → Int} {te b a : Nat} {ld : Nat → Int} {nm : Int → Int}
theorem mt_T_t (h : mt_T I L K P V te) (e1 : ∀ k, I' 84 k = I 84 k) (e2 : ∀ k, I' 85 k = I 85 k) : mt_T I' L K P V te := by
  obtain ⟨h1, h2, h3⟩ := h
  exact ⟨h1, fun i hi => by rw [e1, e2]; exact h2 i hi, h3⟩
theorem mt_N_t {L' : Nat → Nat → Int} {pn po : Nat} {m : Int} (h : mt_N I L pn po m nm) (e1 : ∀ k : Nat, (k : Int) < m → I' po k = I po k) (e2 : ∀ k : Nat, (k : Int) < m → L' pn k = L pn k) : mt_N I' L' pn po m nm := by
  obtain ⟨h1, h2, h3⟩ := h
  exact ⟨h1, fun k hk => by rw [e1 k hk, e2 k hk]; exact h2 k hk, fun v hv => h3 v (fun k hk => by rw [← e2 k hk]; exact hv k hk)⟩
theorem mt_Ld_t (h : mt_Ld I L b ld nm) (f : mt_F I I') : mt_Ld I' L b ld nm := by
  obtain ⟨⟨h1, h2⟩, h3, h4, h5, h6⟩ := h
  have e88 : ∀ k, I' 88 k = I 88 k := fun k => f.1 88 k (by omega)
  refine ⟨⟨by rw [f.1 82 20 (by omega)]; exact h1, ?_⟩, fun j hj => by rw [e88]; exact h3 j hj, by rw [e88]; exact h4, fun j a b => by rw [e88]; exact h5 j a b, h6.1, f.2 h6.2⟩
  rw [f.1 82 19 (by omega), f.1 82 18 (by omega)]
  exact h2.imp (fun z => ⟨z.1, mt_N_t z.2 (fun k _ => f.1 94 k (by omega)) (fun _ _ => rfl)⟩) (fun z => ⟨z.1, mt_N_t z.2 (fun k _ => f.1 93 k (by omega)) (fun _ _ => rfl)⟩)
theorem mt_W_t (h : mt_W I L R Y K P V te b ld nm) (f : mt_F I I') : mt_W I' L R Y K P V te b ld nm := ⟨h.1, mt_T_t h.2.1 (fun k => f.1 84 k (by omega)) (fun k => f.1 85 k (by omega)), mt_Ld_t h.2.2 f⟩
theorem mt_lt (h : mt_T I L K P V te) (ha : a ≤ te) (hk : ¬ K a = 0) : a < te := by
  by_cases e : a = te
  · exact absurd ((h.2.1 a ha).2.2.2.2.2.1.mpr e) hk
  · omega
/-- signs and words are kinds -/
theorem mt_sg (h : mt_T I L K P V te) (ha : a ≤ te) {c : Int} (hc : 33 ≤ c) : (I 84 a = 3 ∧ L 86 a = c) ↔ K a = c := by
  obtain ⟨h1, _, _, _, _, _, h7, h8⟩ := h.2.1 a ha
  have hb := sp_wk_b (L 86 a)
  rw [← h1]
  unfold sp_k
  constructor
  · rintro ⟨x, y⟩
    rw [if_neg (by omega), if_neg (by omega), if_neg (by omega), if_pos x, y]
  · intro x
    by_cases z : I 84 a = 3
    · rw [if_neg (by omega), if_neg (by omega), if_neg (by omega), if_pos z] at x
      exact ⟨z, x⟩
    · rw [if_neg z] at x
      split at x
      · omega
      · split at x
        · omega
        · split at x <;> omega
theorem mt_wd (h : mt_T I L K P V te) (ha : a ≤ te) {w : Int} (h0 : 0 ≤ w) (hw : w < 29) : (I 84 a = 1 ∧ L 86 a = L 87 w.toNat) ↔ K a = 4 + w := by
  obtain ⟨h1, _, _, _, _, _, h7, h8⟩ := h.2.1 a ha
  have hb := sp_wk_b (L 86 a)
  have hi := sp_wk_iff (v := L 86 a) (w := w.toNat) (by omega)
  rw [h.2.2 w.toNat (by omega), ← hi, ← h1, show ((w.toNat : Nat) : Int) = w by omega]
  unfold sp_k
  constructor
  · rintro ⟨x, y⟩
    rw [if_neg (by omega), if_neg (by omega), if_neg (by omega), if_neg (by omega)]
    exact y
  · intro x
    by_cases z : I 84 a = 1
    · rw [if_neg (by omega), if_neg (by omega), if_neg (by omega), if_neg (by omega)] at x
      exact ⟨z, x⟩
    · obtain z | z | z | z : I 84 a = 0 ∨ I 84 a = 2 ∨ I 84 a = 3 ∨ I 84 a = 4 := by omega
      · rw [if_pos z] at x
        omega
      · rw [if_neg (by omega), if_neg (by omega), if_pos z] at x
        omega
      · rw [if_neg (by omega), if_neg (by omega), if_neg (by omega), if_pos z] at x
        have := h8 z
        omega
      · rw [if_neg (by omega), if_pos z] at x
        omega
theorem mt_nb (h : mt_T I L K P V te) (ha : a ≤ te) : I 84 a = 2 ↔ K a = 2 := by
  obtain ⟨h1, _, _, _, _, _, h7, h8⟩ := h.2.1 a ha
  have hb := sp_wk_b (L 86 a)
  rw [← h1]
  unfold sp_k
  constructor
  · intro x
    rw [if_neg (by omega), if_neg (by omega), if_pos x]
  · intro x
    obtain z | z | z | z | z : I 84 a = 0 ∨ I 84 a = 1 ∨ I 84 a = 2 ∨ I 84 a = 3 ∨ I 84 a = 4 := by omega
    · rw [if_pos z] at x
      omega
    · rw [if_neg (by omega), if_neg (by omega), if_neg (by omega), if_neg (by omega)] at x
      omega
    · exact z
    · rw [if_neg (by omega), if_neg (by omega), if_neg (by omega), if_pos z] at x
      have := h8 z
      omega
    · rw [if_neg (by omega), if_pos z] at x
      omega
theorem mt_w1 (h : mt_T I L K P V te) (ha : a ≤ te) : I 84 a = 1 ↔ (3 ≤ K a ∧ K a ≤ 32) := by
  obtain ⟨h1, _, _, _, _, _, h7, h8⟩ := h.2.1 a ha
  have hb := sp_wk_b (L 86 a)
  rw [← h1]
  unfold sp_k
  constructor
  · intro x
    rw [if_neg (by omega), if_neg (by omega), if_neg (by omega), if_neg (by omega)]
    exact hb
  · intro x
    obtain z | z | z | z | z : I 84 a = 0 ∨ I 84 a = 1 ∨ I 84 a = 2 ∨ I 84 a = 3 ∨ I 84 a = 4 := by omega
    · rw [if_pos z] at x
      omega
    · exact z
    · rw [if_neg (by omega), if_neg (by omega), if_pos z] at x
      omega
    · rw [if_neg (by omega), if_neg (by omega), if_neg (by omega), if_pos z] at x
      have := h8 z
      omega
    · rw [if_neg (by omega), if_pos z] at x
      omega
theorem mt_end (h : mt_T I L K P V te) (ha : a ≤ te) : I 84 a = 0 ↔ K a = 0 := by
  obtain ⟨h1, _, _, _, _, _, h7, h8⟩ := h.2.1 a ha
  have hb := sp_wk_b (L 86 a)
  rw [← h1]
  unfold sp_k
  constructor
  · intro x
    rw [if_pos x]
  · intro x
    obtain z | z | z | z | z : I 84 a = 0 ∨ I 84 a = 1 ∨ I 84 a = 2 ∨ I 84 a = 3 ∨ I 84 a = 4 := by omega
    · exact z
    · rw [if_neg (by omega), if_neg (by omega), if_neg (by omega), if_neg (by omega)] at x
      omega
    · rw [if_neg (by omega), if_neg (by omega), if_pos z] at x
      omega
    · rw [if_neg (by omega), if_neg (by omega), if_neg (by omega), if_pos z] at x
      have := h8 z
      omega
    · rw [if_neg (by omega), if_pos z] at x
      omega
end MTW
