/-! The class: a formula, on 64 futures; on all. -/
/-- what a code says at one bit -/
def cval (W : Nat → Nat → Int) (pe ev da z i x : Nat) : Bool := if x % 16 = 0 then false else dcl (gW W pe ev (x / 256 % 16) z i) pe da (x % 16) (x / 16 % 16) (x / 4096 % 16) (x / 65536 % 16)
/-- a code that is well formed -/
def cokX (pe ev da x : Nat) : Prop := x < 1048576 ∧ (x % 16 ≤ 3 ∨ (4 ≤ x % 16 ∧ x % 16 ≤ 7 ∧ (6 ≤ x % 16 → x / 16 % 16 < pe ∧ x / 4096 % 16 < pe) ∧ (x % 16 ≤ 5 → x / 16 % 16 ≤ 5 ∧ (x / 16 % 16 < 4 → x / 16 % 16 < pe)) ∧ x / 256 % 16 < ev ∧ (x % 16 = 4 → 1 ≤ x / 4096 % 16 ∧ x / 65536 % 16 ≤ da ∧ x / 4096 % 16 ≤ x / 65536 % 16 + 1) ∧ (x % 16 = 5 → x / 4096 % 16 ≤ x / 65536 % 16 + 1 ∧ x / 65536 % 16 ≤ 6)))
/-- one code, on a stack of bits -/
def bst (val : Nat → Bool) (x : Nat) (st : List Bool) : Option (List Bool) := if x % 16 = 1 then (match st with | a :: r => some ((!a) :: r) | [] => none) else if x % 16 = 2 then (match st with | y :: a :: r => some ((a && y) :: r) | _ => none) else if x % 16 = 3 then (match st with | y :: a :: r => some ((a || y) :: r) | _ => none) else if st.length < 64 then some (val x :: st) else none
theorem bst_1 {val : Nat → Bool} {x : Nat} {st st' : List Bool} (h : bst val x st = some st') (hx : x % 16 = 1) : ∃ a r, st = a :: r ∧ st' = (!a) :: r := by
  unfold bst at h
  rw [if_pos hx] at h
  cases st with
  | nil => cases h
  | cons a r => exact ⟨a, r, rfl, (Option.some.inj h).symm⟩
theorem bst_2 {val : Nat → Bool} {x : Nat} {st st' : List Bool} (h : bst val x st = some st') (hx : x % 16 = 2) : ∃ y a r, st = y :: a :: r ∧ st' = (a && y) :: r := by
  unfold bst at h
  rw [if_neg (by omega), if_pos hx] at h
  cases st with
  | nil => cases h
  | cons y r =>
    cases r with
    | nil => cases h
    | cons a r => exact ⟨y, a, r, rfl, (Option.some.inj h).symm⟩
theorem bst_3 {val : Nat → Bool} {x : Nat} {st st' : List Bool} (h : bst val x st = some st') (hx : x % 16 = 3) : ∃ y a r, st = y :: a :: r ∧ st' = (a || y) :: r := by
  unfold bst at h
  rw [if_neg (by omega), if_neg (by omega), if_pos hx] at h
  cases st with
  | nil => cases h
  | cons y r =>
    cases r with
    | nil => cases h
    | cons a r => exact ⟨y, a, r, rfl, (Option.some.inj h).symm⟩
theorem bst_p {val : Nat → Bool} {x : Nat} {st st' : List Bool} (h : bst val x st = some st') (h1 : ¬ x % 16 = 1) (h2 : ¬ x % 16 = 2) (h3 : ¬ x % 16 = 3) : st.length < 64 ∧ st' = val x :: st := by
  unfold bst at h
  rw [if_neg h1, if_neg h2, if_neg h3] at h
  by_cases c : st.length < 64
  · rw [if_pos c] at h
    exact ⟨c, (Option.some.inj h).symm⟩
  · rw [if_neg c] at h
    cases h
/-- the stack's cells -/
def sv (G : Nat → Nat → Int) (sk : Nat → List Bool) (h : Nat) : Prop := ∀ i, i < 64 → (sk i).length = h ∧ ∀ j, j < h → yb (G 43 j) i = (sk i).getD (h - 1 - j) false
theorem sv_not {G G' : Nat → Nat → Int} {sk sk' : Nat → List Bool} {h : Nat} (h1 : sv G sk h) (hs : ∀ i, i < 64 → ∃ a r, sk i = a :: r ∧ sk' i = (!a) :: r) (hG : G' 43 (h - 1) = yi_lxor (G 43 (h - 1)) (-1)) (hF : ∀ j, ¬ j = h - 1 → G' 43 j = G 43 j) : sv G' sk' h := fun i hi => by
  obtain ⟨a, r, e1, e2⟩ := hs i hi
  obtain ⟨l1, l2⟩ := h1 i hi
  rw [e1] at l1 l2
  rw [e2]
  refine ⟨l1, fun j hj => ?_⟩
  have hl : r.length + 1 = h := l1
  by_cases c : j = h - 1
  · have z := l2 j hj
    subst c
    rw [show h - 1 - (h - 1) = 0 by omega] at z ⊢
    rw [hG, yb_not _ hi, z]
    rfl
  · have z := l2 j hj
    obtain ⟨t, ht⟩ : ∃ t, h - 1 - j = t + 1 := ⟨h - 1 - j - 1, by omega⟩
    rw [ht] at z ⊢
    rw [hF j c, z]
    rfl
theorem sv_two {G G' : Nat → Nat → Int} {sk sk' : Nat → List Bool} {h : Nat} {op : Bool → Bool → Bool} {w : Int} (h1 : sv G sk h) (hs : ∀ i, i < 64 → ∃ y a r, sk i = y :: a :: r ∧ sk' i = op a y :: r) (hw : ∀ i, i < 64 → yb w i = op (yb (G 43 (h - 2)) i) (yb (G 43 (h - 1)) i)) (hG : G' 43 (h - 2) = w) (hF : ∀ j, ¬ j = h - 2 → G' 43 j = G 43 j) : sv G' sk' (h - 1) := fun i hi => by
  obtain ⟨y, a, r, e1, e2⟩ := hs i hi
  obtain ⟨l1, l2⟩ := h1 i hi
  rw [e1] at l1 l2
  rw [e2]
  have hl : r.length + 1 + 1 = h := l1
  refine ⟨(by show r.length + 1 = h - 1; omega), fun j hj => ?_⟩
  by_cases c : j = h - 2
  · have z0 := l2 (h - 1) (by omega)
    have z1 := l2 (h - 2) (by omega)
    rw [show h - 1 - (h - 1) = 0 by omega] at z0
    rw [show h - 1 - (h - 2) = 1 by omega] at z1
    subst c
    rw [show h - 1 - 1 - (h - 2) = 0 by omega, hG, hw i hi, z0, z1]
    rfl
  · have z := l2 j (by omega)
    obtain ⟨t, ht⟩ : ∃ t, h - 1 - j = t + 2 := ⟨h - 1 - j - 2, by omega⟩
    rw [ht] at z
    rw [show h - 1 - 1 - j = t + 1 by omega, hF j c, z]
    rfl
theorem sv_push {G G' : Nat → Nat → Int} {sk sk' : Nat → List Bool} {h : Nat} {v : Nat → Bool} {w : Int} (h1 : sv G sk h) (hs : ∀ i, i < 64 → sk' i = v i :: sk i) (hw : ∀ i, i < 64 → yb w i = v i) (hG : G' 43 h = w) (hF : ∀ j, ¬ j = h → G' 43 j = G 43 j) : sv G' sk' (h + 1) := fun i hi => by
  obtain ⟨l1, l2⟩ := h1 i hi
  rw [hs i hi]
  refine ⟨(by show (sk i).length + 1 = h + 1; omega), fun j hj => ?_⟩
  by_cases c : j = h
  · subst c
    rw [show j + 1 - 1 - j = 0 by omega, hG, hw i hi]
    rfl
  · have z := l2 j (by omega)
    obtain ⟨t, ht⟩ : ∃ t, h + 1 - 1 - j = t + 1 := ⟨h - 1 - j, by omega⟩
    rw [ht, hF j c, z, show h - 1 - j = t by omega]
    rfl
/-- the stack's cells are longs -/
def sb64 (G : Nat → Nat → Int) (h : Nat) : Prop := ∀ j, j < h → b64 (G 43 j)
theorem p_clauseCell0 {d : Nat} {I L : Nat → Nat → Int} {R : Nat → Nat → Option Nat} {Y : (Nat → Nat) × (Nat → Nat) × Nat} (hA : at_T R Y) {x : Nat} {z : Int} (hx : x < 1048576 ∧ x % 16 = 0) : yi_P zi_Ms d 305 [.inr (.inr (some 34)), .inl (x : Int), .inl z] (I, L, R, Y) (fun r => r = (some (.inr (.inl 0)), (I, L, R, Y), 0, 0)) := by
  refine yi_P_of (M := zi_m305) rfl (fun d k => ?_)
  have c1 : yi_iand (x : Int) 15 = 0 := by
    have e := i15_32 x (by omega)
    rw [hx.2] at e
    exact e
  show yi_D zi_Ms d zi_m305 k (0, [(0, .inr (.inr (some 34))), (1, .inl (x : Int)), (2, .inl z)], [], (I, L, R, Y), 0, 0) _
  refine yi_D_run 6 (8, [(3, .inl (yi_iand (x : Int) 15)), (0, .inr (.inr (some 34))), (1, .inl (x : Int)), (2, .inl z)], [.inl 6, .inl (yi_iand (x : Int) 15)], (I, L, R, Y), 0, 0) (fun _ => rfl) ?_
  have h1 : ¬ ((yi_iand (x : Int) 15) = 6) := by omega
  refine yi_D_if2 false rfl (yi_eq_f h1) ?_
  refine yi_D_run 2 (14, [(3, .inl (yi_iand (x : Int) 15)), (0, .inr (.inr (some 34))), (1, .inl (x : Int)), (2, .inl z)], [.inl 7, .inl (yi_iand (x : Int) 15)], (I, L, R, Y), 0, 0) (fun _ => rfl) ?_
  have h2 : ¬ ((yi_iand (x : Int) 15) = 7) := by omega
  refine yi_D_if2 true rfl (yi_ne_t h2) ?_
  refine yi_D_run 1 (25, [(3, .inl (yi_iand (x : Int) 15)), (0, .inr (.inr (some 34))), (1, .inl (x : Int)), (2, .inl z)], [.inl (yi_iand (x : Int) 15)], (I, L, R, Y), 0, 0) (fun _ => rfl) ?_
  have h3 : (yi_iand (x : Int) 15) = 0 := by omega
  refine yi_D_if1 false rfl (yi_ne_f h3) ?_
  refine yi_D_run 1 (29, [(3, .inl (yi_iand (x : Int) 15)), (0, .inr (.inr (some 34))), (1, .inl (x : Int)), (2, .inl z)], [.inr (.inl 0)], (I, L, R, Y), 0, 0) (fun _ => rfl) ?_
  refine yi_D_retl rfl ?_
  rfl
theorem p_clauseCellX {d : Nat} {I L : Nat → Nat → Int} {R : Nat → Nat → Option Nat} {Y : (Nat → Nat) × (Nat → Nat) × Nat} (hA : at_T R Y) {n da pe ev : Nat} {W : Nat → Nat → Int} (hw : ww_S I L R Y n da pe ev W) {x : Nat} {z : Int} (hx : cokX pe ev da x) (h123 : ¬ x % 16 = 1 ∧ ¬ x % 16 = 2 ∧ ¬ x % 16 = 3) (hz : 0 ≤ z ∧ z < n) : yi_P zi_Ms d 305 [.inr (.inr (some 34)), .inl (x : Int), .inl z] (I, L, R, Y) (fun r => ∃ v, r = (some (.inr (.inl v)), (I, L, R, Y), 0, 0) ∧ (∀ i, i < 64 → yb v i = cval W pe ev da z.toNat i x) ∧ b64 v) := by
  by_cases c : x % 16 = 0
  · refine (p_clauseCell0 hA ⟨hx.1, c⟩).imp (fun r e => ⟨0, e, fun i hi => ?_, b64_0⟩)
    unfold cval
    rw [if_pos c, yb_0]
  · obtain ⟨h1, h2⟩ := hx
    obtain ⟨a1, a2, a3, a4, a5, a6, a7⟩ := h2.resolve_left (by omega)
    refine (p_clauseCell hA hw (x := x) (w := x % 16) (a := x / 16 % 16) (b := x / 256 % 16) (c := x / 4096 % 16) (f := x / 65536 % 16) ⟨by omega, by omega, by omega, by omega, by omega, by omega⟩ ⟨a1, a2⟩ a3 a4 a5 a6 a7 hz).imp (fun r ⟨v, e, f, g⟩ => ⟨v, e, fun i hi => ?_, g⟩)
    rw [f i hi]
    unfold cval
    rw [if_neg c]
theorem p_solveCell {d : Nat} {I L : Nat → Nat → Int} {R : Nat → Nat → Option Nat} {Y : (Nat → Nat) × (Nat → Nat) × Nat} (hA : at_T R Y) {n da pe ev Q fr m : Nat} {W : Nat → Nat → Int} {z : Int} {cd : Nat → Nat} {sk : Nat → Nat → List Bool} (hw : ∀ G : Nat → Nat → Int, (∀ q k, ¬ q = 43 → G q k = L q k) → ww_S I G R Y n da pe ev W) (hQ : 10 ≤ Q ∧ fr + m ≤ Y.2.1 Q ∧ Y.2.1 Q ≤ 100000) (hcd : ∀ k, k < m → I Q (fr + k) = (cd k : Int)) (hok : ∀ k, k < m → cokX pe ev da (cd k)) (hsk : ∀ i, i < 64 → sk i 0 = [] ∧ ∀ k, k < m → bst (cval W pe ev da z.toNat i) (cd k) (sk i k) = some (sk i (k + 1))) (hz : 0 ≤ z ∧ z < n) : yi_P zi_Ms d 310 [.inr (.inr (some 34)), .inr (.inr (some Q)), .inl (fr : Int), .inl ((fr + m : Nat) : Int), .inl z] (I, L, R, Y) (fun r => ∃ v L', r = (some (.inr (.inl v)), (I, L', R, Y), 0, 0) ∧ (∀ i, i < 64 → yb v i = (sk i m).headD false) ∧ b64 v ∧ ∀ q k, ¬ q = 43 → L' q k = L q k) := by
  refine yi_P_of (M := zi_m310) rfl (fun d k => ?_)
  show yi_D zi_Ms d zi_m310 k (0, [(0, .inr (.inr (some 34))), (1, .inr (.inr (some Q))), (2, .inl (fr : Int)), (3, .inl ((fr + m : Nat) : Int)), (4, .inl z)], [], (I, L, R, Y), 0, 0) _
  refine yi_D_run 4 (5, [(5, .inl 0), (0, .inr (.inr (some 34))), (1, .inr (.inr (some Q))), (2, .inl (fr : Int)), (3, .inl ((fr + m : Nat) : Int)), (4, .inl z)], [.inl 0, .inl (fr : Int)], (I, L, R, Y), 0, 0) (fun _ => rfl) ?_
  refine yi_D_run 1 (8, [(5, .inl 0), (0, .inr (.inr (some 34))), (1, .inr (.inr (some Q))), (2, .inl (fr : Int)), (3, .inl ((fr + m : Nat) : Int)), (4, .inl z)], [.inl (if (fr : Int) < 0 then 0 else (fr : Int))], (I, L, R, Y), 0, 0) (fun _ => rfl) ?_
  rw [if_neg (show ¬ ((fr : Int) < 0) by omega)]
  refine yi_D_run 1 (10, [(6, .inl (fr : Int)), (5, .inl 0), (0, .inr (.inr (some 34))), (1, .inr (.inr (some Q))), (2, .inl (fr : Int)), (3, .inl ((fr + m : Nat) : Int)), (4, .inl z)], [], (I, L, R, Y), 0, 0) (fun _ => rfl) ?_
  have pt10 : ∀ j10, j10 ≤ k → ∀ (y6 : Int) (y5 : Int) (z7 : Int) (z8 : Int) (z10 : Int) (G1 : Nat → Nat → Int) (h : Nat), (y5 = (h : Int)) → ((fr : Int) ≤ y6 ∧ y6 ≤ fr + m) → ((h : Int) ≤ y6 - fr) → (sv G1 (fun i => sk i (y6 - fr).toNat) h) → (sb64 G1 h) → (∀ q k, ¬ q = 43 → G1 q k = L q k) → yi_D zi_Ms d zi_m310 j10 (10, [(6, .inl y6), (5, .inl y5), (0, .inr (.inr (some 34))), (1, .inr (.inr (some Q))), (2, .inl (fr : Int)), (3, .inl ((fr + m : Nat) : Int)), (4, .inl z), (7, .inl z7), (8, .inr (.inl z8)), (10, .inr (.inl z10))], [], (I, G1, R, Y), 0, 0) (fun r => ∃ v L', r = (some (.inr (.inl v)), (I, L', R, Y), 0, 0) ∧ (∀ i, i < 64 → yb v i = (sk i m).headD false) ∧ b64 v ∧ ∀ q k, ¬ q = 43 → L' q k = L q k) := by
    intro j10
    induction j10 with
    | zero => intros; exact yi_D_0
    | succ j10 ih10 =>
    intro hk10 y6 y5 z7 z8 z10 G1 h hy5 hy6 hhb hs hB hG
    refine yi_D_run1 1 (13, [(6, .inl y6), (5, .inl y5), (0, .inr (.inr (some 34))), (1, .inr (.inr (some Q))), (2, .inl (fr : Int)), (3, .inl ((fr + m : Nat) : Int)), (4, .inl z), (7, .inl z7), (8, .inr (.inl z8)), (10, .inr (.inl z10))], [.inl ((fr + m : Nat) : Int), .inl y6], (I, G1, R, Y), 0, 0) (fun _ => rfl) ?_
    by_cases h1 : ((fr + m : Nat) : Int) ≤ y6
    · refine yi_D_if2 true rfl (yi_ge_t h1) ?_
      refine yi_D_run 2 (182, [(6, .inl y6), (5, .inl y5), (0, .inr (.inr (some 34))), (1, .inr (.inr (some Q))), (2, .inl (fr : Int)), (3, .inl ((fr + m : Nat) : Int)), (4, .inl z), (7, .inl z7), (8, .inr (.inl z8)), (10, .inr (.inl z10))], [.inl 1, .inl y5], (I, G1, R, Y), 0, 0) (fun _ => rfl) ?_
      by_cases h2 : y5 < 1
      · refine yi_D_if2 true rfl (yi_lt_t h2) ?_
        refine yi_D_run 1 (198, [(6, .inl y6), (5, .inl y5), (0, .inr (.inr (some 34))), (1, .inr (.inr (some Q))), (2, .inl (fr : Int)), (3, .inl ((fr + m : Nat) : Int)), (4, .inl z), (7, .inl z7), (8, .inr (.inl z8)), (10, .inr (.inl z10))], [.inr (.inl 0)], (I, G1, R, Y), 0, 0) (fun _ => rfl) ?_
        refine yi_D_retl rfl ?_
        have hkm : (y6 - fr).toNat = m := by omega
        rw [hkm] at hs
        exact ⟨_, _, rfl, fun i hi => by have l0 : (sk i m).length = h := (hs i hi).1; rw [yb_0]; rw [List.eq_nil_of_length_eq_zero (show (sk i m).length = 0 by omega)]; rfl, b64_0, hG⟩
      · refine yi_D_if2 false rfl (yi_lt_f h2) ?_
        refine yi_D_run 1 (186, [(6, .inl y6), (5, .inl y5), (0, .inr (.inr (some 34))), (1, .inr (.inr (some Q))), (2, .inl (fr : Int)), (3, .inl ((fr + m : Nat) : Int)), (4, .inl z), (7, .inl z7), (8, .inr (.inl z8)), (10, .inr (.inl z10))], [.inr (.inr (some 34))], (I, G1, R, Y), 0, 0) (fun _ => rfl) ?_
        refine yi_D_gr (v := some 43) rfl rfl rfl (at_r hA (j := 29) rfl) (fun _ => ?_)
        refine yi_D_run 2 (192, [(6, .inl y6), (5, .inl y5), (0, .inr (.inr (some 34))), (1, .inr (.inr (some Q))), (2, .inl (fr : Int)), (3, .inl ((fr + m : Nat) : Int)), (4, .inl z), (7, .inl z7), (8, .inr (.inl z8)), (10, .inr (.inl z10))], [.inl 1, .inl y5, .inr (.inr (some 43))], (I, G1, R, Y), 0, 0) (fun _ => rfl) ?_
        refine yi_D_isub rfl (y5 - 1) (yi_wn (by omega) (by omega)) ?_
        refine yi_D_ll (v := G1 43 ((y5 - 1).toNat)) rfl rfl rfl (fun _ _ => ?_)
        refine yi_D_run 1 (198, [(6, .inl y6), (5, .inl y5), (0, .inr (.inr (some 34))), (1, .inr (.inr (some Q))), (2, .inl (fr : Int)), (3, .inl ((fr + m : Nat) : Int)), (4, .inl z), (7, .inl z7), (8, .inr (.inl z8)), (10, .inr (.inl z10))], [.inr (.inl (G1 43 ((y5 - 1).toNat)))], (I, G1, R, Y), 0, 0) (fun _ => rfl) ?_
        refine yi_D_retl rfl ?_
        have hkm : (y6 - fr).toNat = m := by omega
        rw [hkm] at hs
        exact ⟨_, _, rfl, fun i hi => by have z : yb (G1 43 (h - 1)) i = (sk i m).getD (h - 1 - (h - 1)) false := (hs i hi).2 (h - 1) (by omega); rw [show h - 1 - (h - 1) = 0 by omega] at z; rw [show (y5 - 1).toNat = h - 1 by omega, z]; cases sk i m <;> rfl, hB _ (by omega), hG⟩
    · refine yi_D_if2 false rfl (yi_ge_f h1) ?_
      refine yi_D_run 2 (19, [(6, .inl y6), (5, .inl y5), (0, .inr (.inr (some 34))), (1, .inr (.inr (some Q))), (2, .inl (fr : Int)), (3, .inl ((fr + m : Nat) : Int)), (4, .inl z), (7, .inl z7), (8, .inr (.inl z8)), (10, .inr (.inl z10))], [.inr (.inr (some Q)), .inl y6], (I, G1, R, Y), 0, 0) (fun _ => rfl) ?_
      refine yi_D_len (v := (Y.2.1 Q : Int)) rfl (Nat.ble_eq_true_of_le (by omega)) rfl ?_
      have h3 : ¬ ((Y.2.1 Q : Int) ≤ y6) := by omega
      refine yi_D_if2 false rfl (yi_ge_f h3) ?_
      have hk0 : y6.toNat = fr + (y6 - fr).toNat := by omega
      obtain ⟨x0, hx0⟩ : ∃ x, x = cd (y6 - fr).toNat := ⟨_, rfl⟩
      have hcr : I Q y6.toNat = (x0 : Int) := by rw [hk0, hcd _ (by omega), hx0]
      have hxo := hok (y6 - fr).toNat (by omega)
      rw [← hx0] at hxo
      have hxs : ∀ i, i < 64 → bst (cval W pe ev da z.toNat i) x0 (sk i (y6 - fr).toNat) = some (sk i ((y6 - fr).toNat + 1)) := fun i hi => by rw [hx0]; exact (hsk i hi).2 _ (by omega)
      have c15 := i15_32 x0 (by have := hxo.1; omega)
      refine yi_D_run 2 (26, [(6, .inl y6), (5, .inl y5), (0, .inr (.inr (some 34))), (1, .inr (.inr (some Q))), (2, .inl (fr : Int)), (3, .inl ((fr + m : Nat) : Int)), (4, .inl z), (7, .inl z7), (8, .inr (.inl z8)), (10, .inr (.inl z10))], [.inl y6, .inr (.inr (some Q))], (I, G1, R, Y), 0, 0) (fun _ => rfl) ?_
      refine yi_D_il (v := (x0 : Int)) rfl (Nat.ble_eq_true_of_le (by omega)) hcr (fun _ _ => ?_)
      refine yi_D_run 5 (35, [(7, .inl (yi_iand (x0 : Int) 15)), (6, .inl y6), (5, .inl y5), (0, .inr (.inr (some 34))), (1, .inr (.inr (some Q))), (2, .inl (fr : Int)), (3, .inl ((fr + m : Nat) : Int)), (4, .inl z), (8, .inr (.inl z8)), (10, .inr (.inl z10))], [.inl 1, .inl (yi_iand (x0 : Int) 15)], (I, G1, R, Y), 0, 0) (fun _ => rfl) ?_
      by_cases h4 : (yi_iand (x0 : Int) 15) = 1
      · refine yi_D_if2 false rfl (yi_ne_f h4) ?_
        obtain ⟨a0, r0, e0, -⟩ := bst_1 (hxs 0 (by omega)) (by omega)
        have l0 : (sk 0 (y6 - fr).toNat).length = h := (hs 0 (by omega)).1
        rw [e0, List.length_cons] at l0
        refine yi_D_run 2 (41, [(7, .inl (yi_iand (x0 : Int) 15)), (6, .inl y6), (5, .inl y5), (0, .inr (.inr (some 34))), (1, .inr (.inr (some Q))), (2, .inl (fr : Int)), (3, .inl ((fr + m : Nat) : Int)), (4, .inl z), (8, .inr (.inl z8)), (10, .inr (.inl z10))], [.inl 1, .inl y5], (I, G1, R, Y), 0, 0) (fun _ => rfl) ?_
        have h5 : ¬ (y5 < 1) := by omega
        refine yi_D_if2 false rfl (yi_lt_f h5) ?_
        refine yi_D_run 1 (45, [(7, .inl (yi_iand (x0 : Int) 15)), (6, .inl y6), (5, .inl y5), (0, .inr (.inr (some 34))), (1, .inr (.inr (some Q))), (2, .inl (fr : Int)), (3, .inl ((fr + m : Nat) : Int)), (4, .inl z), (8, .inr (.inl z8)), (10, .inr (.inl z10))], [.inr (.inr (some 34))], (I, G1, R, Y), 0, 0) (fun _ => rfl) ?_
        refine yi_D_gr (v := some 43) rfl rfl rfl (at_r hA (j := 29) rfl) (fun _ => ?_)
        refine yi_D_run 2 (51, [(7, .inl (yi_iand (x0 : Int) 15)), (6, .inl y6), (5, .inl y5), (0, .inr (.inr (some 34))), (1, .inr (.inr (some Q))), (2, .inl (fr : Int)), (3, .inl ((fr + m : Nat) : Int)), (4, .inl z), (8, .inr (.inl z8)), (10, .inr (.inl z10))], [.inl 1, .inl y5, .inr (.inr (some 43))], (I, G1, R, Y), 0, 0) (fun _ => rfl) ?_
        refine yi_D_isub rfl (y5 - 1) (yi_wn (by omega) (by omega)) ?_
        refine yi_D_run 1 (53, [(7, .inl (yi_iand (x0 : Int) 15)), (6, .inl y6), (5, .inl y5), (0, .inr (.inr (some 34))), (1, .inr (.inr (some Q))), (2, .inl (fr : Int)), (3, .inl ((fr + m : Nat) : Int)), (4, .inl z), (8, .inr (.inl z8)), (10, .inr (.inl z10))], [.inr (.inr (some 34)), .inl (y5 - 1), .inr (.inr (some 43))], (I, G1, R, Y), 0, 0) (fun _ => rfl) ?_
        refine yi_D_gr (v := some 43) rfl rfl rfl (at_r hA (j := 29) rfl) (fun _ => ?_)
        refine yi_D_run 2 (59, [(7, .inl (yi_iand (x0 : Int) 15)), (6, .inl y6), (5, .inl y5), (0, .inr (.inr (some 34))), (1, .inr (.inr (some Q))), (2, .inl (fr : Int)), (3, .inl ((fr + m : Nat) : Int)), (4, .inl z), (8, .inr (.inl z8)), (10, .inr (.inl z10))], [.inl 1, .inl y5, .inr (.inr (some 43)), .inl (y5 - 1), .inr (.inr (some 43))], (I, G1, R, Y), 0, 0) (fun _ => rfl) ?_
        refine yi_D_isub rfl (y5 - 1) (yi_wn (by omega) (by omega)) ?_
        refine yi_D_ll (v := G1 43 ((y5 - 1).toNat)) rfl rfl rfl (fun _ _ => ?_)
        refine yi_D_ldc2 ((-1)) rfl (by decide +kernel) ?_
        refine yi_D_run 1 (65, [(7, .inl (yi_iand (x0 : Int) 15)), (6, .inl y6), (5, .inl y5), (0, .inr (.inr (some 34))), (1, .inr (.inr (some Q))), (2, .inl (fr : Int)), (3, .inl ((fr + m : Nat) : Int)), (4, .inl z), (8, .inr (.inl z8)), (10, .inr (.inl z10))], [.inr (.inl (yi_lxor (G1 43 ((y5 - 1).toNat)) (-1))), .inl (y5 - 1), .inr (.inr (some 43))], (I, G1, R, Y), 0, 0) (fun _ => rfl) ?_
        refine yi_D_ls rfl (fun _ _ => ?_)
        generalize w7 : yi_u G1 43 ((y5 - 1).toNat) (yi_lxor (G1 43 ((y5 - 1).toNat)) (-1)) = L6
        refine yi_D_run 1 (173, [(7, .inl (yi_iand (x0 : Int) 15)), (6, .inl y6), (5, .inl y5), (0, .inr (.inr (some 34))), (1, .inr (.inr (some Q))), (2, .inl (fr : Int)), (3, .inl ((fr + m : Nat) : Int)), (4, .inl z), (8, .inr (.inl z8)), (10, .inr (.inl z10))], [], (I, L6, R, Y), 0, 0) (fun _ => rfl) ?_
        refine yi_D_iinc [(6, .inl (y6 + 1)), (7, .inl (yi_iand (x0 : Int) 15)), (5, .inl y5), (0, .inr (.inr (some 34))), (1, .inr (.inr (some Q))), (2, .inl (fr : Int)), (3, .inl ((fr + m : Nat) : Int)), (4, .inl z), (8, .inr (.inl z8)), (10, .inr (.inl z10))] rfl rfl rfl (by rw [show yi_w (y6 + 1) = y6 + 1 from (yi_wn (by omega) (by omega)).trans (by omega)]; rfl) ?_
        refine yi_D_run 1 (10, [(6, .inl (y6 + 1)), (7, .inl (yi_iand (x0 : Int) 15)), (5, .inl y5), (0, .inr (.inr (some 34))), (1, .inr (.inr (some Q))), (2, .inl (fr : Int)), (3, .inl ((fr + m : Nat) : Int)), (4, .inl z), (8, .inr (.inl z8)), (10, .inr (.inl z10))], [], (I, L6, R, Y), 0, 0) (fun _ => rfl) ?_
        refine yi_D_al (al := [(6, .inl (y6 + 1)), (5, .inl y5), (0, .inr (.inr (some 34))), (1, .inr (.inr (some Q))), (2, .inl (fr : Int)), (3, .inl ((fr + m : Nat) : Int)), (4, .inl z), (7, .inl (yi_iand (x0 : Int) 15)), (8, .inr (.inl z8)), (10, .inr (.inl z10))]) (show ([6, 5, 0, 1, 2, 3, 4, 7, 8, 10] : List Nat).Nodup by decide) (show ([6, 7, 5, 0, 1, 2, 3, 4, 8, 10] : List Nat).Nodup by decide) (yi_mc (List.mem_of_getElem? (i := 0) rfl) (yi_mc (List.mem_of_getElem? (i := 7) rfl) (yi_mc (List.mem_of_getElem? (i := 1) rfl) (yi_mc (List.mem_of_getElem? (i := 2) rfl) (yi_mc (List.mem_of_getElem? (i := 3) rfl) (yi_mc (List.mem_of_getElem? (i := 4) rfl) (yi_mc (List.mem_of_getElem? (i := 5) rfl) (yi_mc (List.mem_of_getElem? (i := 6) rfl) (yi_mc (List.mem_of_getElem? (i := 8) rfl) (yi_mc (List.mem_of_getElem? (i := 9) rfl) yi_mn)))))))))) ?_
        exact yi_D_mono (ih10 (by omega) (y6 + 1) y5 (yi_iand (x0 : Int) 15) z8 z10 L6 h (by omega) (by omega) (by omega) (by rw [show (y6 + 1 - fr).toNat = (y6 - fr).toNat + 1 by omega]; exact sv_not hs (fun i hi => bst_1 (hxs i hi) (by omega)) (by rw [← w7]; rw [show (y5 - 1).toNat = h - 1 by omega, yi_u_eq]) (fun j hj => by rw [← w7, yi_u_ne _ _ (fun z => hj (by have := z.2; omega))])) (fun j hj => by by_cases e : j = (y5 - 1).toNat; rw [e, ← w7, yi_u_eq]; exact b64_lxor _ _; rw [← w7, yi_u_ne _ _ (fun z => e z.2)]; exact hB j (by omega)) (fun q k hq => by rw [← w7, yi_u_ne _ _ (fun z => hq z.1)]; exact hG q k hq)) (by omega)
      · refine yi_D_if2 true rfl (yi_ne_t h4) ?_
        refine yi_D_run 2 (72, [(7, .inl (yi_iand (x0 : Int) 15)), (6, .inl y6), (5, .inl y5), (0, .inr (.inr (some 34))), (1, .inr (.inr (some Q))), (2, .inl (fr : Int)), (3, .inl ((fr + m : Nat) : Int)), (4, .inl z), (8, .inr (.inl z8)), (10, .inr (.inl z10))], [.inl 2, .inl (yi_iand (x0 : Int) 15)], (I, G1, R, Y), 0, 0) (fun _ => rfl) ?_
        by_cases h8 : (yi_iand (x0 : Int) 15) = 2
        · refine yi_D_if2 true rfl (yi_eq_t h8) ?_
          have l0 : 2 ≤ h := by
            have l1 : (sk 0 (y6 - fr).toNat).length = h := (hs 0 (by omega)).1
            by_cases e2 : x0 % 16 = 2
            · obtain ⟨y0, a0, r0, e0, -⟩ := bst_2 (hxs 0 (by omega)) e2
              rw [e0, List.length_cons, List.length_cons] at l1
              omega
            · obtain ⟨y0, a0, r0, e0, -⟩ := bst_3 (hxs 0 (by omega)) (by omega)
              rw [e0, List.length_cons, List.length_cons] at l1
              omega
          refine yi_D_run 2 (84, [(7, .inl (yi_iand (x0 : Int) 15)), (6, .inl y6), (5, .inl y5), (0, .inr (.inr (some 34))), (1, .inr (.inr (some Q))), (2, .inl (fr : Int)), (3, .inl ((fr + m : Nat) : Int)), (4, .inl z), (8, .inr (.inl z8)), (10, .inr (.inl z10))], [.inl 2, .inl y5], (I, G1, R, Y), 0, 0) (fun _ => rfl) ?_
          have h9 : ¬ (y5 < 2) := by omega
          refine yi_D_if2 false rfl (yi_lt_f h9) ?_
          refine yi_D_run 1 (88, [(7, .inl (yi_iand (x0 : Int) 15)), (6, .inl y6), (5, .inl y5), (0, .inr (.inr (some 34))), (1, .inr (.inr (some Q))), (2, .inl (fr : Int)), (3, .inl ((fr + m : Nat) : Int)), (4, .inl z), (8, .inr (.inl z8)), (10, .inr (.inl z10))], [.inr (.inr (some 34))], (I, G1, R, Y), 0, 0) (fun _ => rfl) ?_
          refine yi_D_gr (v := some 43) rfl rfl rfl (at_r hA (j := 29) rfl) (fun _ => ?_)
          refine yi_D_run 2 (94, [(7, .inl (yi_iand (x0 : Int) 15)), (6, .inl y6), (5, .inl y5), (0, .inr (.inr (some 34))), (1, .inr (.inr (some Q))), (2, .inl (fr : Int)), (3, .inl ((fr + m : Nat) : Int)), (4, .inl z), (8, .inr (.inl z8)), (10, .inr (.inl z10))], [.inl 1, .inl y5, .inr (.inr (some 43))], (I, G1, R, Y), 0, 0) (fun _ => rfl) ?_
          refine yi_D_isub rfl (y5 - 1) (yi_wn (by omega) (by omega)) ?_
          refine yi_D_ll (v := G1 43 ((y5 - 1).toNat)) rfl rfl rfl (fun _ _ => ?_)
          refine yi_D_run 2 (99, [(8, .inr (.inl (G1 43 ((y5 - 1).toNat)))), (7, .inl (yi_iand (x0 : Int) 15)), (6, .inl y6), (5, .inl y5), (0, .inr (.inr (some 34))), (1, .inr (.inr (some Q))), (2, .inl (fr : Int)), (3, .inl ((fr + m : Nat) : Int)), (4, .inl z), (10, .inr (.inl z10))], [.inr (.inr (some 34))], (I, G1, R, Y), 0, 0) (fun _ => rfl) ?_
          refine yi_D_gr (v := some 43) rfl rfl rfl (at_r hA (j := 29) rfl) (fun _ => ?_)
          refine yi_D_run 2 (105, [(8, .inr (.inl (G1 43 ((y5 - 1).toNat)))), (7, .inl (yi_iand (x0 : Int) 15)), (6, .inl y6), (5, .inl y5), (0, .inr (.inr (some 34))), (1, .inr (.inr (some Q))), (2, .inl (fr : Int)), (3, .inl ((fr + m : Nat) : Int)), (4, .inl z), (10, .inr (.inl z10))], [.inl 2, .inl y5, .inr (.inr (some 43))], (I, G1, R, Y), 0, 0) (fun _ => rfl) ?_
          refine yi_D_isub rfl (y5 - 2) (yi_wn (by omega) (by omega)) ?_
          refine yi_D_ll (v := G1 43 ((y5 - 2).toNat)) rfl rfl rfl (fun _ _ => ?_)
          refine yi_D_run 2 (110, [(10, .inr (.inl (G1 43 ((y5 - 2).toNat)))), (8, .inr (.inl (G1 43 ((y5 - 1).toNat)))), (7, .inl (yi_iand (x0 : Int) 15)), (6, .inl y6), (5, .inl y5), (0, .inr (.inr (some 34))), (1, .inr (.inr (some Q))), (2, .inl (fr : Int)), (3, .inl ((fr + m : Nat) : Int)), (4, .inl z)], [.inr (.inr (some 34))], (I, G1, R, Y), 0, 0) (fun _ => rfl) ?_
          refine yi_D_gr (v := some 43) rfl rfl rfl (at_r hA (j := 29) rfl) (fun _ => ?_)
          refine yi_D_run 2 (116, [(10, .inr (.inl (G1 43 ((y5 - 2).toNat)))), (8, .inr (.inl (G1 43 ((y5 - 1).toNat)))), (7, .inl (yi_iand (x0 : Int) 15)), (6, .inl y6), (5, .inl y5), (0, .inr (.inr (some 34))), (1, .inr (.inr (some Q))), (2, .inl (fr : Int)), (3, .inl ((fr + m : Nat) : Int)), (4, .inl z)], [.inl 2, .inl y5, .inr (.inr (some 43))], (I, G1, R, Y), 0, 0) (fun _ => rfl) ?_
          refine yi_D_isub rfl (y5 - 2) (yi_wn (by omega) (by omega)) ?_
          refine yi_D_run 2 (120, [(10, .inr (.inl (G1 43 ((y5 - 2).toNat)))), (8, .inr (.inl (G1 43 ((y5 - 1).toNat)))), (7, .inl (yi_iand (x0 : Int) 15)), (6, .inl y6), (5, .inl y5), (0, .inr (.inr (some 34))), (1, .inr (.inr (some Q))), (2, .inl (fr : Int)), (3, .inl ((fr + m : Nat) : Int)), (4, .inl z)], [.inl 2, .inl (yi_iand (x0 : Int) 15), .inl (y5 - 2), .inr (.inr (some 43))], (I, G1, R, Y), 0, 0) (fun _ => rfl) ?_
          have h10 : (yi_iand (x0 : Int) 15) = 2 := by omega
          refine yi_D_if2 false rfl (yi_ne_f h10) ?_
          skip
          refine yi_D_run 4 (136, [(10, .inr (.inl (G1 43 ((y5 - 2).toNat)))), (8, .inr (.inl (G1 43 ((y5 - 1).toNat)))), (7, .inl (yi_iand (x0 : Int) 15)), (6, .inl y6), (5, .inl y5), (0, .inr (.inr (some 34))), (1, .inr (.inr (some Q))), (2, .inl (fr : Int)), (3, .inl ((fr + m : Nat) : Int)), (4, .inl z)], [.inr (.inl (yi_land (G1 43 ((y5 - 2).toNat)) (G1 43 ((y5 - 1).toNat)))), .inl (y5 - 2), .inr (.inr (some 43))], (I, G1, R, Y), 0, 0) (fun _ => rfl) ?_
          refine yi_D_ls rfl (fun _ _ => ?_)
          generalize w12 : yi_u G1 43 ((y5 - 2).toNat) (yi_land (G1 43 ((y5 - 2).toNat)) (G1 43 ((y5 - 1).toNat))) = L11
          refine yi_D_iinc [(5, .inl (y5 - 1)), (10, .inr (.inl (G1 43 ((y5 - 2).toNat)))), (8, .inr (.inl (G1 43 ((y5 - 1).toNat)))), (7, .inl (yi_iand (x0 : Int) 15)), (6, .inl y6), (0, .inr (.inr (some 34))), (1, .inr (.inr (some Q))), (2, .inl (fr : Int)), (3, .inl ((fr + m : Nat) : Int)), (4, .inl z)] rfl rfl rfl (by rw [show yi_w (y5 + (-1)) = y5 - 1 from (yi_wn (by omega) (by omega)).trans (by omega)]; rfl) ?_
          refine yi_D_run 1 (173, [(5, .inl (y5 - 1)), (10, .inr (.inl (G1 43 ((y5 - 2).toNat)))), (8, .inr (.inl (G1 43 ((y5 - 1).toNat)))), (7, .inl (yi_iand (x0 : Int) 15)), (6, .inl y6), (0, .inr (.inr (some 34))), (1, .inr (.inr (some Q))), (2, .inl (fr : Int)), (3, .inl ((fr + m : Nat) : Int)), (4, .inl z)], [], (I, L11, R, Y), 0, 0) (fun _ => rfl) ?_
          refine yi_D_iinc [(6, .inl (y6 + 1)), (5, .inl (y5 - 1)), (10, .inr (.inl (G1 43 ((y5 - 2).toNat)))), (8, .inr (.inl (G1 43 ((y5 - 1).toNat)))), (7, .inl (yi_iand (x0 : Int) 15)), (0, .inr (.inr (some 34))), (1, .inr (.inr (some Q))), (2, .inl (fr : Int)), (3, .inl ((fr + m : Nat) : Int)), (4, .inl z)] rfl rfl rfl (by rw [show yi_w (y6 + 1) = y6 + 1 from (yi_wn (by omega) (by omega)).trans (by omega)]; rfl) ?_
          refine yi_D_run 1 (10, [(6, .inl (y6 + 1)), (5, .inl (y5 - 1)), (10, .inr (.inl (G1 43 ((y5 - 2).toNat)))), (8, .inr (.inl (G1 43 ((y5 - 1).toNat)))), (7, .inl (yi_iand (x0 : Int) 15)), (0, .inr (.inr (some 34))), (1, .inr (.inr (some Q))), (2, .inl (fr : Int)), (3, .inl ((fr + m : Nat) : Int)), (4, .inl z)], [], (I, L11, R, Y), 0, 0) (fun _ => rfl) ?_
          refine yi_D_al (al := [(6, .inl (y6 + 1)), (5, .inl (y5 - 1)), (0, .inr (.inr (some 34))), (1, .inr (.inr (some Q))), (2, .inl (fr : Int)), (3, .inl ((fr + m : Nat) : Int)), (4, .inl z), (7, .inl (yi_iand (x0 : Int) 15)), (8, .inr (.inl (G1 43 ((y5 - 1).toNat)))), (10, .inr (.inl (G1 43 ((y5 - 2).toNat))))]) (show ([6, 5, 0, 1, 2, 3, 4, 7, 8, 10] : List Nat).Nodup by decide) (show ([6, 5, 10, 8, 7, 0, 1, 2, 3, 4] : List Nat).Nodup by decide) (yi_mc (List.mem_of_getElem? (i := 0) rfl) (yi_mc (List.mem_of_getElem? (i := 1) rfl) (yi_mc (List.mem_of_getElem? (i := 9) rfl) (yi_mc (List.mem_of_getElem? (i := 8) rfl) (yi_mc (List.mem_of_getElem? (i := 7) rfl) (yi_mc (List.mem_of_getElem? (i := 2) rfl) (yi_mc (List.mem_of_getElem? (i := 3) rfl) (yi_mc (List.mem_of_getElem? (i := 4) rfl) (yi_mc (List.mem_of_getElem? (i := 5) rfl) (yi_mc (List.mem_of_getElem? (i := 6) rfl) yi_mn)))))))))) ?_
          exact yi_D_mono (ih10 (by omega) (y6 + 1) (y5 - 1) (yi_iand (x0 : Int) 15) (G1 43 ((y5 - 1).toNat)) (G1 43 ((y5 - 2).toNat)) L11 (h - 1) (by omega) (by omega) (by omega) (by rw [show (y6 + 1 - fr).toNat = (y6 - fr).toNat + 1 by omega]; exact sv_two (op := fun a y => a && y) hs (fun i hi => bst_2 (hxs i hi) (by omega)) (fun i hi => yb_and _ _ i) (by rw [← w12, show (y5 - 2).toNat = h - 2 by omega, show (y5 - 1).toNat = h - 1 by omega, yi_u_eq]) (fun j hj => by rw [← w12, yi_u_ne _ _ (fun z => hj (by have := z.2; omega))])) (fun j hj => by by_cases e : j = (y5 - 2).toNat; rw [e, ← w12, yi_u_eq]; exact b64_land _ _; rw [← w12, yi_u_ne _ _ (fun z => e z.2)]; exact hB j (by omega)) (fun q k hq => by rw [← w12, yi_u_ne _ _ (fun z => hq z.1)]; exact hG q k hq)) (by omega)
        · refine yi_D_if2 false rfl (yi_eq_f h8) ?_
          refine yi_D_run 2 (78, [(7, .inl (yi_iand (x0 : Int) 15)), (6, .inl y6), (5, .inl y5), (0, .inr (.inr (some 34))), (1, .inr (.inr (some Q))), (2, .inl (fr : Int)), (3, .inl ((fr + m : Nat) : Int)), (4, .inl z), (8, .inr (.inl z8)), (10, .inr (.inl z10))], [.inl 3, .inl (yi_iand (x0 : Int) 15)], (I, G1, R, Y), 0, 0) (fun _ => rfl) ?_
          by_cases h13 : (yi_iand (x0 : Int) 15) = 3
          · refine yi_D_if2 false rfl (yi_ne_f h13) ?_
            have l0 : 2 ≤ h := by
              have l1 : (sk 0 (y6 - fr).toNat).length = h := (hs 0 (by omega)).1
              by_cases e2 : x0 % 16 = 2
              · obtain ⟨y0, a0, r0, e0, -⟩ := bst_2 (hxs 0 (by omega)) e2
                rw [e0, List.length_cons, List.length_cons] at l1
                omega
              · obtain ⟨y0, a0, r0, e0, -⟩ := bst_3 (hxs 0 (by omega)) (by omega)
                rw [e0, List.length_cons, List.length_cons] at l1
                omega
            refine yi_D_run 2 (84, [(7, .inl (yi_iand (x0 : Int) 15)), (6, .inl y6), (5, .inl y5), (0, .inr (.inr (some 34))), (1, .inr (.inr (some Q))), (2, .inl (fr : Int)), (3, .inl ((fr + m : Nat) : Int)), (4, .inl z), (8, .inr (.inl z8)), (10, .inr (.inl z10))], [.inl 2, .inl y5], (I, G1, R, Y), 0, 0) (fun _ => rfl) ?_
            have h14 : ¬ (y5 < 2) := by omega
            refine yi_D_if2 false rfl (yi_lt_f h14) ?_
            refine yi_D_run 1 (88, [(7, .inl (yi_iand (x0 : Int) 15)), (6, .inl y6), (5, .inl y5), (0, .inr (.inr (some 34))), (1, .inr (.inr (some Q))), (2, .inl (fr : Int)), (3, .inl ((fr + m : Nat) : Int)), (4, .inl z), (8, .inr (.inl z8)), (10, .inr (.inl z10))], [.inr (.inr (some 34))], (I, G1, R, Y), 0, 0) (fun _ => rfl) ?_
            refine yi_D_gr (v := some 43) rfl rfl rfl (at_r hA (j := 29) rfl) (fun _ => ?_)
            refine yi_D_run 2 (94, [(7, .inl (yi_iand (x0 : Int) 15)), (6, .inl y6), (5, .inl y5), (0, .inr (.inr (some 34))), (1, .inr (.inr (some Q))), (2, .inl (fr : Int)), (3, .inl ((fr + m : Nat) : Int)), (4, .inl z), (8, .inr (.inl z8)), (10, .inr (.inl z10))], [.inl 1, .inl y5, .inr (.inr (some 43))], (I, G1, R, Y), 0, 0) (fun _ => rfl) ?_
            refine yi_D_isub rfl (y5 - 1) (yi_wn (by omega) (by omega)) ?_
            refine yi_D_ll (v := G1 43 ((y5 - 1).toNat)) rfl rfl rfl (fun _ _ => ?_)
            refine yi_D_run 2 (99, [(8, .inr (.inl (G1 43 ((y5 - 1).toNat)))), (7, .inl (yi_iand (x0 : Int) 15)), (6, .inl y6), (5, .inl y5), (0, .inr (.inr (some 34))), (1, .inr (.inr (some Q))), (2, .inl (fr : Int)), (3, .inl ((fr + m : Nat) : Int)), (4, .inl z), (10, .inr (.inl z10))], [.inr (.inr (some 34))], (I, G1, R, Y), 0, 0) (fun _ => rfl) ?_
            refine yi_D_gr (v := some 43) rfl rfl rfl (at_r hA (j := 29) rfl) (fun _ => ?_)
            refine yi_D_run 2 (105, [(8, .inr (.inl (G1 43 ((y5 - 1).toNat)))), (7, .inl (yi_iand (x0 : Int) 15)), (6, .inl y6), (5, .inl y5), (0, .inr (.inr (some 34))), (1, .inr (.inr (some Q))), (2, .inl (fr : Int)), (3, .inl ((fr + m : Nat) : Int)), (4, .inl z), (10, .inr (.inl z10))], [.inl 2, .inl y5, .inr (.inr (some 43))], (I, G1, R, Y), 0, 0) (fun _ => rfl) ?_
            refine yi_D_isub rfl (y5 - 2) (yi_wn (by omega) (by omega)) ?_
            refine yi_D_ll (v := G1 43 ((y5 - 2).toNat)) rfl rfl rfl (fun _ _ => ?_)
            refine yi_D_run 2 (110, [(10, .inr (.inl (G1 43 ((y5 - 2).toNat)))), (8, .inr (.inl (G1 43 ((y5 - 1).toNat)))), (7, .inl (yi_iand (x0 : Int) 15)), (6, .inl y6), (5, .inl y5), (0, .inr (.inr (some 34))), (1, .inr (.inr (some Q))), (2, .inl (fr : Int)), (3, .inl ((fr + m : Nat) : Int)), (4, .inl z)], [.inr (.inr (some 34))], (I, G1, R, Y), 0, 0) (fun _ => rfl) ?_
            refine yi_D_gr (v := some 43) rfl rfl rfl (at_r hA (j := 29) rfl) (fun _ => ?_)
            refine yi_D_run 2 (116, [(10, .inr (.inl (G1 43 ((y5 - 2).toNat)))), (8, .inr (.inl (G1 43 ((y5 - 1).toNat)))), (7, .inl (yi_iand (x0 : Int) 15)), (6, .inl y6), (5, .inl y5), (0, .inr (.inr (some 34))), (1, .inr (.inr (some Q))), (2, .inl (fr : Int)), (3, .inl ((fr + m : Nat) : Int)), (4, .inl z)], [.inl 2, .inl y5, .inr (.inr (some 43))], (I, G1, R, Y), 0, 0) (fun _ => rfl) ?_
            refine yi_D_isub rfl (y5 - 2) (yi_wn (by omega) (by omega)) ?_
            refine yi_D_run 2 (120, [(10, .inr (.inl (G1 43 ((y5 - 2).toNat)))), (8, .inr (.inl (G1 43 ((y5 - 1).toNat)))), (7, .inl (yi_iand (x0 : Int) 15)), (6, .inl y6), (5, .inl y5), (0, .inr (.inr (some 34))), (1, .inr (.inr (some Q))), (2, .inl (fr : Int)), (3, .inl ((fr + m : Nat) : Int)), (4, .inl z)], [.inl 2, .inl (yi_iand (x0 : Int) 15), .inl (y5 - 2), .inr (.inr (some 43))], (I, G1, R, Y), 0, 0) (fun _ => rfl) ?_
            have h15 : ¬ ((yi_iand (x0 : Int) 15) = 2) := by omega
            refine yi_D_if2 true rfl (yi_ne_t h15) ?_
            skip
            refine yi_D_run 3 (136, [(10, .inr (.inl (G1 43 ((y5 - 2).toNat)))), (8, .inr (.inl (G1 43 ((y5 - 1).toNat)))), (7, .inl (yi_iand (x0 : Int) 15)), (6, .inl y6), (5, .inl y5), (0, .inr (.inr (some 34))), (1, .inr (.inr (some Q))), (2, .inl (fr : Int)), (3, .inl ((fr + m : Nat) : Int)), (4, .inl z)], [.inr (.inl (yi_lor (G1 43 ((y5 - 2).toNat)) (G1 43 ((y5 - 1).toNat)))), .inl (y5 - 2), .inr (.inr (some 43))], (I, G1, R, Y), 0, 0) (fun _ => rfl) ?_
            refine yi_D_ls rfl (fun _ _ => ?_)
            generalize w17 : yi_u G1 43 ((y5 - 2).toNat) (yi_lor (G1 43 ((y5 - 2).toNat)) (G1 43 ((y5 - 1).toNat))) = L16
            refine yi_D_iinc [(5, .inl (y5 - 1)), (10, .inr (.inl (G1 43 ((y5 - 2).toNat)))), (8, .inr (.inl (G1 43 ((y5 - 1).toNat)))), (7, .inl (yi_iand (x0 : Int) 15)), (6, .inl y6), (0, .inr (.inr (some 34))), (1, .inr (.inr (some Q))), (2, .inl (fr : Int)), (3, .inl ((fr + m : Nat) : Int)), (4, .inl z)] rfl rfl rfl (by rw [show yi_w (y5 + (-1)) = y5 - 1 from (yi_wn (by omega) (by omega)).trans (by omega)]; rfl) ?_
            refine yi_D_run 1 (173, [(5, .inl (y5 - 1)), (10, .inr (.inl (G1 43 ((y5 - 2).toNat)))), (8, .inr (.inl (G1 43 ((y5 - 1).toNat)))), (7, .inl (yi_iand (x0 : Int) 15)), (6, .inl y6), (0, .inr (.inr (some 34))), (1, .inr (.inr (some Q))), (2, .inl (fr : Int)), (3, .inl ((fr + m : Nat) : Int)), (4, .inl z)], [], (I, L16, R, Y), 0, 0) (fun _ => rfl) ?_
            refine yi_D_iinc [(6, .inl (y6 + 1)), (5, .inl (y5 - 1)), (10, .inr (.inl (G1 43 ((y5 - 2).toNat)))), (8, .inr (.inl (G1 43 ((y5 - 1).toNat)))), (7, .inl (yi_iand (x0 : Int) 15)), (0, .inr (.inr (some 34))), (1, .inr (.inr (some Q))), (2, .inl (fr : Int)), (3, .inl ((fr + m : Nat) : Int)), (4, .inl z)] rfl rfl rfl (by rw [show yi_w (y6 + 1) = y6 + 1 from (yi_wn (by omega) (by omega)).trans (by omega)]; rfl) ?_
            refine yi_D_run 1 (10, [(6, .inl (y6 + 1)), (5, .inl (y5 - 1)), (10, .inr (.inl (G1 43 ((y5 - 2).toNat)))), (8, .inr (.inl (G1 43 ((y5 - 1).toNat)))), (7, .inl (yi_iand (x0 : Int) 15)), (0, .inr (.inr (some 34))), (1, .inr (.inr (some Q))), (2, .inl (fr : Int)), (3, .inl ((fr + m : Nat) : Int)), (4, .inl z)], [], (I, L16, R, Y), 0, 0) (fun _ => rfl) ?_
            refine yi_D_al (al := [(6, .inl (y6 + 1)), (5, .inl (y5 - 1)), (0, .inr (.inr (some 34))), (1, .inr (.inr (some Q))), (2, .inl (fr : Int)), (3, .inl ((fr + m : Nat) : Int)), (4, .inl z), (7, .inl (yi_iand (x0 : Int) 15)), (8, .inr (.inl (G1 43 ((y5 - 1).toNat)))), (10, .inr (.inl (G1 43 ((y5 - 2).toNat))))]) (show ([6, 5, 0, 1, 2, 3, 4, 7, 8, 10] : List Nat).Nodup by decide) (show ([6, 5, 10, 8, 7, 0, 1, 2, 3, 4] : List Nat).Nodup by decide) (yi_mc (List.mem_of_getElem? (i := 0) rfl) (yi_mc (List.mem_of_getElem? (i := 1) rfl) (yi_mc (List.mem_of_getElem? (i := 9) rfl) (yi_mc (List.mem_of_getElem? (i := 8) rfl) (yi_mc (List.mem_of_getElem? (i := 7) rfl) (yi_mc (List.mem_of_getElem? (i := 2) rfl) (yi_mc (List.mem_of_getElem? (i := 3) rfl) (yi_mc (List.mem_of_getElem? (i := 4) rfl) (yi_mc (List.mem_of_getElem? (i := 5) rfl) (yi_mc (List.mem_of_getElem? (i := 6) rfl) yi_mn)))))))))) ?_
            exact yi_D_mono (ih10 (by omega) (y6 + 1) (y5 - 1) (yi_iand (x0 : Int) 15) (G1 43 ((y5 - 1).toNat)) (G1 43 ((y5 - 2).toNat)) L16 (h - 1) (by omega) (by omega) (by omega) (by rw [show (y6 + 1 - fr).toNat = (y6 - fr).toNat + 1 by omega]; exact sv_two (op := fun a y => a || y) hs (fun i hi => bst_3 (hxs i hi) (by omega)) (fun i hi => yb_or _ _ i) (by rw [← w17, show (y5 - 2).toNat = h - 2 by omega, show (y5 - 1).toNat = h - 1 by omega, yi_u_eq]) (fun j hj => by rw [← w17, yi_u_ne _ _ (fun z => hj (by have := z.2; omega))])) (fun j hj => by by_cases e : j = (y5 - 2).toNat; rw [e, ← w17, yi_u_eq]; exact b64_lor _ _; rw [← w17, yi_u_ne _ _ (fun z => e z.2)]; exact hB j (by omega)) (fun q k hq => by rw [← w17, yi_u_ne _ _ (fun z => hq z.1)]; exact hG q k hq)) (by omega)
          · refine yi_D_if2 true rfl (yi_ne_t h13) ?_
            have l0 := (bst_p (hxs 0 (by omega)) (by omega) (by omega) (by omega)).1
            have l1 : (sk 0 (y6 - fr).toNat).length = h := (hs 0 (by omega)).1
            rw [l1] at l0
            refine yi_D_run 2 (146, [(7, .inl (yi_iand (x0 : Int) 15)), (6, .inl y6), (5, .inl y5), (0, .inr (.inr (some 34))), (1, .inr (.inr (some Q))), (2, .inl (fr : Int)), (3, .inl ((fr + m : Nat) : Int)), (4, .inl z), (8, .inr (.inl z8)), (10, .inr (.inl z10))], [.inr (.inr (some 34)), .inl y5], (I, G1, R, Y), 0, 0) (fun _ => rfl) ?_
            refine yi_D_gr (v := some 43) rfl rfl rfl (at_r hA (j := 29) rfl) (fun _ => ?_)
            refine yi_D_len (v := 64) rfl rfl (at_ni hA (j := 9) rfl) ?_
            have h18 : ¬ (64 ≤ y5) := by omega
            refine yi_D_if2 false rfl (yi_ge_f h18) ?_
            refine yi_D_run 1 (154, [(7, .inl (yi_iand (x0 : Int) 15)), (6, .inl y6), (5, .inl y5), (0, .inr (.inr (some 34))), (1, .inr (.inr (some Q))), (2, .inl (fr : Int)), (3, .inl ((fr + m : Nat) : Int)), (4, .inl z), (8, .inr (.inl z8)), (10, .inr (.inl z10))], [.inr (.inr (some 34))], (I, G1, R, Y), 0, 0) (fun _ => rfl) ?_
            refine yi_D_gr (v := some 43) rfl rfl rfl (at_r hA (j := 29) rfl) (fun _ => ?_)
            refine yi_D_run 4 (163, [(7, .inl (yi_iand (x0 : Int) 15)), (6, .inl y6), (5, .inl y5), (0, .inr (.inr (some 34))), (1, .inr (.inr (some Q))), (2, .inl (fr : Int)), (3, .inl ((fr + m : Nat) : Int)), (4, .inl z), (8, .inr (.inl z8)), (10, .inr (.inl z10))], [.inl y6, .inr (.inr (some Q)), .inr (.inr (some 34)), .inl y5, .inr (.inr (some 43))], (I, G1, R, Y), 0, 0) (fun _ => rfl) ?_
            refine yi_D_il (v := (x0 : Int)) rfl (Nat.ble_eq_true_of_le (by omega)) hcr (fun _ _ => ?_)
            refine yi_D_run 1 (166, [(7, .inl (yi_iand (x0 : Int) 15)), (6, .inl y6), (5, .inl y5), (0, .inr (.inr (some 34))), (1, .inr (.inr (some Q))), (2, .inl (fr : Int)), (3, .inl ((fr + m : Nat) : Int)), (4, .inl z), (8, .inr (.inl z8)), (10, .inr (.inl z10))], [.inl z, .inl (x0 : Int), .inr (.inr (some 34)), .inl y5, .inr (.inr (some 43))], (I, G1, R, Y), 0, 0) (fun _ => rfl) ?_
            refine yi_D_callv rfl (p_clauseCellX hA (hw G1 hG) hxo ⟨by omega, by omega, by omega⟩ hz) ?_
            rintro _ ⟨v19, rfl, c20, b21⟩
            show yi_D zi_Ms d zi_m310 j10 (169, [(7, .inl (yi_iand (x0 : Int) 15)), (6, .inl y6), (5, .inl y5), (0, .inr (.inr (some 34))), (1, .inr (.inr (some Q))), (2, .inl (fr : Int)), (3, .inl ((fr + m : Nat) : Int)), (4, .inl z), (8, .inr (.inl z8)), (10, .inr (.inl z10))], [.inr (.inl v19), .inl y5, .inr (.inr (some 43))], (I, G1, R, Y), 0, 0) _
            refine yi_D_ls rfl (fun _ _ => ?_)
            generalize w23 : yi_u G1 43 (y5.toNat) v19 = L22
            refine yi_D_iinc [(5, .inl (y5 + 1)), (7, .inl (yi_iand (x0 : Int) 15)), (6, .inl y6), (0, .inr (.inr (some 34))), (1, .inr (.inr (some Q))), (2, .inl (fr : Int)), (3, .inl ((fr + m : Nat) : Int)), (4, .inl z), (8, .inr (.inl z8)), (10, .inr (.inl z10))] rfl rfl rfl (by rw [show yi_w (y5 + 1) = y5 + 1 from (yi_wn (by omega) (by omega)).trans (by omega)]; rfl) ?_
            refine yi_D_iinc [(6, .inl (y6 + 1)), (5, .inl (y5 + 1)), (7, .inl (yi_iand (x0 : Int) 15)), (0, .inr (.inr (some 34))), (1, .inr (.inr (some Q))), (2, .inl (fr : Int)), (3, .inl ((fr + m : Nat) : Int)), (4, .inl z), (8, .inr (.inl z8)), (10, .inr (.inl z10))] rfl rfl rfl (by rw [show yi_w (y6 + 1) = y6 + 1 from (yi_wn (by omega) (by omega)).trans (by omega)]; rfl) ?_
            refine yi_D_run 1 (10, [(6, .inl (y6 + 1)), (5, .inl (y5 + 1)), (7, .inl (yi_iand (x0 : Int) 15)), (0, .inr (.inr (some 34))), (1, .inr (.inr (some Q))), (2, .inl (fr : Int)), (3, .inl ((fr + m : Nat) : Int)), (4, .inl z), (8, .inr (.inl z8)), (10, .inr (.inl z10))], [], (I, L22, R, Y), 0, 0) (fun _ => rfl) ?_
            refine yi_D_al (al := [(6, .inl (y6 + 1)), (5, .inl (y5 + 1)), (0, .inr (.inr (some 34))), (1, .inr (.inr (some Q))), (2, .inl (fr : Int)), (3, .inl ((fr + m : Nat) : Int)), (4, .inl z), (7, .inl (yi_iand (x0 : Int) 15)), (8, .inr (.inl z8)), (10, .inr (.inl z10))]) (show ([6, 5, 0, 1, 2, 3, 4, 7, 8, 10] : List Nat).Nodup by decide) (show ([6, 5, 7, 0, 1, 2, 3, 4, 8, 10] : List Nat).Nodup by decide) (yi_mc (List.mem_of_getElem? (i := 0) rfl) (yi_mc (List.mem_of_getElem? (i := 1) rfl) (yi_mc (List.mem_of_getElem? (i := 7) rfl) (yi_mc (List.mem_of_getElem? (i := 2) rfl) (yi_mc (List.mem_of_getElem? (i := 3) rfl) (yi_mc (List.mem_of_getElem? (i := 4) rfl) (yi_mc (List.mem_of_getElem? (i := 5) rfl) (yi_mc (List.mem_of_getElem? (i := 6) rfl) (yi_mc (List.mem_of_getElem? (i := 8) rfl) (yi_mc (List.mem_of_getElem? (i := 9) rfl) yi_mn)))))))))) ?_
            exact yi_D_mono (ih10 (by omega) (y6 + 1) (y5 + 1) (yi_iand (x0 : Int) 15) z8 z10 L22 (h + 1) (by omega) (by omega) (by omega) (by rw [show (y6 + 1 - fr).toNat = (y6 - fr).toNat + 1 by omega]; exact sv_push hs (fun i hi => (bst_p (hxs i hi) (by omega) (by omega) (by omega)).2) c20 (by rw [← w23, show y5.toNat = h by omega, yi_u_eq]) (fun j hj => by rw [← w23, yi_u_ne _ _ (fun z => hj (by have := z.2; omega))])) (fun j hj => by by_cases e : j = y5.toNat; rw [e, ← w23, yi_u_eq]; exact b21; rw [← w23, yi_u_ne _ _ (fun z => e z.2)]; exact hB j (by omega)) (fun q k hq => by rw [← w23, yi_u_ne _ _ (fun z => hq z.1)]; exact hG q k hq)) (by omega)
  refine yi_D_al (al := [(6, .inl (fr : Int)), (5, .inl 0), (0, .inr (.inr (some 34))), (1, .inr (.inr (some Q))), (2, .inl (fr : Int)), (3, .inl ((fr + m : Nat) : Int)), (4, .inl z), (7, .inl 0), (8, .inr (.inl 0)), (10, .inr (.inl 0))]) (show ([6, 5, 0, 1, 2, 3, 4, 7, 8, 10] : List Nat).Nodup by decide) (show ([6, 5, 0, 1, 2, 3, 4] : List Nat).Nodup by decide) (yi_mc (List.mem_of_getElem? (i := 0) rfl) (yi_mc (List.mem_of_getElem? (i := 1) rfl) (yi_mc (List.mem_of_getElem? (i := 2) rfl) (yi_mc (List.mem_of_getElem? (i := 3) rfl) (yi_mc (List.mem_of_getElem? (i := 4) rfl) (yi_mc (List.mem_of_getElem? (i := 5) rfl) (yi_mc (List.mem_of_getElem? (i := 6) rfl) yi_mn))))))) ?_
  exact pt10 k (Nat.le_refl _) (fr : Int) 0 0 0 0 L 0 (by omega) (by omega) (by omega) (fun i hi => by rw [show ((fr : Int) - fr).toNat = 0 by omega]; exact ⟨by show (sk i 0).length = 0; rw [(hsk i hi).1]; rfl, fun j hj => absurd hj (by omega)⟩) (fun j hj => absurd hj (by omega)) (fun _ _ _ => rfl)
