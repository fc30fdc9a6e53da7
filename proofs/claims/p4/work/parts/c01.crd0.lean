/-! The class's reader: what lies where while a text is read. -/
/-- a word's letters, the last one first, to a base -/
def sp_e (b : Int) : List Nat → Int
  | [] => 0
  | c :: u => b * sp_e b u + c
def sp_WR (x v : Int) : Prop := ∃ w : List Nat, w.length ≤ 8 ∧ (∀ c ∈ w, 1 ≤ c ∧ c ≤ 26) ∧ x = sp_e 32 w ∧ v = sp_e 37 w
theorem sp_e_0 {b : Int} (hb : 27 ≤ b) : ∀ w : List Nat, 0 ≤ sp_e b w
  | [] => Int.le_refl 0
  | c :: u => by
    have h := sp_e_0 hb u
    have := Int.mul_nonneg (show (0 : Int) ≤ b by omega) h
    show 0 ≤ b * sp_e b u + c
    omega
theorem sp_e_i {b : Int} (hb : 27 ≤ b) : ∀ w w' : List Nat, (∀ c ∈ w, 1 ≤ c ∧ c ≤ 26) → (∀ c ∈ w', 1 ≤ c ∧ c ≤ 26) → sp_e b w = sp_e b w' → w = w'
  | [], [], _, _, _ => rfl
  | [], c :: u, _, h, e => by
    have h0 := sp_e_0 hb u
    have := Int.mul_nonneg (show (0 : Int) ≤ b by omega) h0
    have hc := h c (List.mem_cons_self ..)
    have e : (0 : Int) = b * sp_e b u + c := e
    omega
  | c :: u, [], h, _, e => by
    have h0 := sp_e_0 hb u
    have := Int.mul_nonneg (show (0 : Int) ≤ b by omega) h0
    have hc := h c (List.mem_cons_self ..)
    have e : b * sp_e b u + c = (0 : Int) := e
    omega
  | c :: u, c' :: u', h, h', e => by
    have e : b * sp_e b u + c = b * sp_e b u' + c' := e
    have hc := h c (List.mem_cons_self ..)
    have hc' := h' c' (List.mem_cons_self ..)
    have m : (b * sp_e b u + c) % b = (b * sp_e b u' + c') % b := by rw [e]
    rw [Int.mul_add_emod_self_left, Int.mul_add_emod_self_left, Int.emod_eq_of_lt (by omega) (by omega), Int.emod_eq_of_lt (by omega) (by omega)] at m
    have hcc : c = c' := by omega
    subst hcc
    have e2 : b * sp_e b u = b * sp_e b u' := by omega
    have e3 := Int.eq_of_mul_eq_mul_left (show b ≠ 0 by omega) e2
    rw [sp_e_i hb u u' (fun x hx => h x (List.mem_cons_of_mem _ hx)) (fun x hx => h' x (List.mem_cons_of_mem _ hx)) e3]
theorem sp_WR_v {x v v' : Int} (h : sp_WR x v) (h' : sp_WR x v') : v = v' := by
  obtain ⟨w, _, a, e, f⟩ := h
  obtain ⟨w', _, a', e', f'⟩ := h'
  have := sp_e_i (by omega) w w' a a' (e.symm.trans e')
  subst this
  exact f.trans f'.symm
theorem sp_WR_x {x x' v : Int} (h : sp_WR x v) (h' : sp_WR x' v) : x = x' := by
  obtain ⟨w, _, a, e, f⟩ := h
  obtain ⟨w', _, a', e', f'⟩ := h'
  have := sp_e_i (by omega) w w' a a' (f.symm.trans f')
  subst this
  exact e.trans e'.symm
/-- the class's own rows -/
def cs_S (R : Nat → Nat → Option Nat) (Y : (Nat → Nat) × (Nat → Nat) × Nat) : Prop := (R 11 0 = some 12 ∧ R 11 1 = some 18 ∧ R 11 2 = some 19) ∧ (R 12 0 = some 13 ∧ R 12 1 = some 14 ∧ R 12 2 = some 15 ∧ R 12 3 = some 16 ∧ R 12 4 = some 17) ∧ (Y.2.1 13 = 1000 ∧ Y.2.1 14 = 1001 ∧ Y.2.1 15 = 1001 ∧ Y.2.1 16 = 1001 ∧ Y.2.1 17 = 29 ∧ Y.2.1 18 = 3 ∧ Y.2.1 19 = 1002)
/-- the tokens -/
def cs_T (I L : Nat → Nat → Int) (K P V : Nat → Int) (te : Nat) : Prop := te ≤ 1000 ∧ I 12 6 = (te : Int) + 1 ∧ (∀ i : Nat, i ≤ te → I 14 i = K i ∧ I 15 i = P i ∧ (0 ≤ P i ∧ P i ≤ 1000) ∧ (K i = 2 → L 16 i = V i ∧ 0 ≤ V i ∧ V i ≤ 9999) ∧ (K i = 3 → sp_WR (L 16 i) (V i)) ∧ (K i = 0 ↔ i = te)) ∧ (L 18 0 = 72564293 ∧ L 18 1 = 1265842 ∧ L 18 2 = 671108)
/-- names of a kind, in a row -/
def cs_N (L : Nat → Nat → Int) (p : Nat) (n : Int) (nm : Int → Int) (lo hi : Int) : Prop := (0 ≤ n ∧ lo + n ≤ hi + 1) ∧ (∀ i : Nat, (i : Int) < n → ∃ v, sp_WR (L p i) v ∧ nm v = lo + i) ∧ (∀ v, lo ≤ nm v → nm v ≤ hi → nm v < lo + n ∧ sp_WR (L p (nm v - lo).toNat) v)
/-- a land that is read -/
def cs_Ld (I L : Nat → Nat → Int) (R : Nat → Nat → Option Nat) (Y : (Nat → Nat) × (Nat → Nat) × Nat) (q : Nat) (ld : Nat → Int) (nm : Int → Int) : Prop := (20 ≤ q ∧ R 11 6 = some q ∧ (∀ j, j < 12 → R q j = some (q + 1 + j)) ∧ (Y.2.1 (q + 1) = 4 ∧ Y.2.1 (q + 2) = 4 ∧ Y.2.1 (q + 3) = 5 ∧ q + 14 ≤ Y.2.2)) ∧ (I q 14 = ld 0 ∧ I q 15 = ld 1 ∧ I q 16 = ld 2 ∧ I q 17 = ld 3 ∧ I q 18 = ld 4 ∧ I q 19 = ld 5) ∧ ((1 ≤ ld 0 ∧ ld 0 ≤ 6) ∧ (0 ≤ ld 1 ∧ ld 1 ≤ 4) ∧ (0 ≤ ld 2 ∧ ld 2 ≤ 4) ∧ (0 ≤ ld 3 ∧ ld 3 ≤ 5) ∧ (0 ≤ ld 4 ∧ ld 4 ≤ 4) ∧ (0 ≤ ld 5 ∧ ld 5 ≤ 6)) ∧ (I q 13 = 0 ↔ ld 6 < 0) ∧ (∀ v, nm v ≤ 12) ∧ (cs_N L (q + 1) (ld 1) nm 0 3 ∧ cs_N L (q + 2) (ld 2) nm 4 7 ∧ cs_N L (q + 3) (ld 3) nm 8 12) ∧ (∀ i : Nat, (i : Int) < ld 1 → I (q + 4) i = ld (7 + i)) ∧ (∀ i : Nat, (i : Int) < ld 3 → I (q + 5) i = ld (11 + 2 * i) ∧ I (q + 6) i = ld (12 + 2 * i))
/-- where the reader stands -/
def cs_A (I L : Nat → Nat → Int) (K : Nat → Int) (te a : Nat) : Prop := I 11 8 = (a : Int) ∧ a ≤ te ∧ I 11 9 = K a ∧ L 11 10 = L 16 a
def cs_W (I L : Nat → Nat → Int) (R : Nat → Nat → Option Nat) (Y : (Nat → Nat) × (Nat → Nat) × Nat) (K P V : Nat → Int) (te q : Nat) (ld : Nat → Int) (nm : Int → Int) : Prop := cs_S R Y ∧ cs_T I L K P V te ∧ cs_Ld I L R Y q ld nm
/-- what reading a formula leaves -/
def cs_F (I L I' L' : Nat → Nat → Int) : Prop := (∀ p k, p ≠ 11 → p ≠ 19 → I' p k = I p k) ∧ (∀ p k, p ≠ 11 → L' p k = L p k)
theorem cs_F_r (I L : Nat → Nat → Int) : cs_F I L I L := ⟨fun _ _ _ _ => rfl, fun _ _ _ => rfl⟩
theorem cs_F_t {I L I' L' I2 L2 : Nat → Nat → Int} (h : cs_F I L I' L') (h2 : cs_F I' L' I2 L2) : cs_F I L I2 L2 := ⟨fun p k a b => (h2.1 p k a b).trans (h.1 p k a b), fun p k a => (h2.2 p k a).trans (h.2 p k a)⟩
def sp_nx (te a : Nat) : Nat := if a < te then a + 1 else a
theorem sp_nx_lt {te a : Nat} (h : a < te) : sp_nx te a = a + 1 := if_pos h
section CSW
variable {I L I' L' : Nat → Nat → Int} {R : Nat → Nat → Option Nat} {Y : (Nat → Nat) × (Nat → Nat) × Nat} {K P V : Nat → Int} {te q a : Nat} {ld : Nat → Int} {nm : Int → Int}
theorem cs_T_t (h : cs_T I L K P V te) (f : cs_F I L I' L') : cs_T I' L' K P V te := by
  obtain ⟨h1, h2, h3, h4⟩ := h
  refine ⟨h1, by rw [f.1 12 6 (by omega) (by omega)]; exact h2, fun i hi => ?_, ?_⟩
  · rw [f.1 14 i (by omega) (by omega), f.1 15 i (by omega) (by omega), f.2 16 i (by omega)]
    exact h3 i hi
  · rw [f.2 18 0 (by omega), f.2 18 1 (by omega), f.2 18 2 (by omega)]
    exact h4
theorem cs_N_t {p : Nat} {n lo hi : Int} (h : cs_N L p n nm lo hi) (e : ∀ k, L' p k = L p k) : cs_N L' p n nm lo hi := by
  obtain ⟨h0, h1, h2⟩ := h
  exact ⟨h0, fun i hi => by rw [e]; exact h1 i hi, fun v a b => by rw [e]; exact h2 v a b⟩
theorem cs_Ld_t (h : cs_Ld I L R Y q ld nm) (f : cs_F I L I' L') : cs_Ld I' L' R Y q ld nm := by
  obtain ⟨h1, h2, h3, h4, h5, h6, h7, h8⟩ := h
  have hq := h1.1
  refine ⟨h1, ?_, h3, ?_, h5, ⟨cs_N_t h6.1 (fun k => f.2 _ k (by omega)), cs_N_t h6.2.1 (fun k => f.2 _ k (by omega)), cs_N_t h6.2.2 (fun k => f.2 _ k (by omega))⟩, fun i hi => ?_, fun i hi => ?_⟩
  · rw [f.1 q 14 (by omega) (by omega), f.1 q 15 (by omega) (by omega), f.1 q 16 (by omega) (by omega), f.1 q 17 (by omega) (by omega), f.1 q 18 (by omega) (by omega), f.1 q 19 (by omega) (by omega)]
    exact h2
  · rw [f.1 q 13 (by omega) (by omega)]
    exact h4
  · rw [f.1 _ _ (by omega) (by omega)]
    exact h7 i hi
  · rw [f.1 _ _ (by omega) (by omega), f.1 _ _ (by omega) (by omega)]
    exact h8 i hi
theorem cs_W_t (h : cs_W I L R Y K P V te q ld nm) (f : cs_F I L I' L') : cs_W I' L' R Y K P V te q ld nm := ⟨h.1, cs_T_t h.2.1 f, cs_Ld_t h.2.2 f⟩
theorem cs_lt (h : cs_T I L K P V te) (ha : a ≤ te) (hk : ¬ K a = 0) : a < te := by
  by_cases e : a = te
  · exact absurd ((h.2.2.1 a ha).2.2.2.2.2.mpr e) hk
  · omega
/-- what find gives -/
def cs_fd (L : Nat → Nat → Int) (p : Nat) (n x z : Int) : Prop := (z = -1 ∧ ∀ j : Nat, (j : Int) < n → ¬ L p j = x) ∨ (0 ≤ z ∧ z < n ∧ L p z.toNat = x)
theorem cs_N_fd {p : Nat} {n lo hi x v z : Int} (h : cs_N L p n nm lo hi) (hw : sp_WR x v) (hz : cs_fd L p n x z) : z = if lo ≤ nm v ∧ nm v ≤ hi then nm v - lo else -1 := by
  obtain ⟨h0, h1, h2⟩ := h
  rcases hz with ⟨e, hn⟩ | ⟨a, b, e⟩
  · rw [if_neg]
    · exact e
    · rintro ⟨c, d⟩
      obtain ⟨h3, h4⟩ := h2 v c d
      have := sp_WR_x h4 hw
      exact hn (nm v - lo).toNat (by omega) this
  · obtain ⟨v', w', e'⟩ := h1 z.toNat (by omega)
    rw [e] at w'
    have := sp_WR_v w' hw
    subst this
    rw [if_pos (by omega)]
    omega
end CSW
