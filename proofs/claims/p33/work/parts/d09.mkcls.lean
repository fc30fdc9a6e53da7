/-! The class: what land and mark make of the marks' row. -/
theorem yi_stp_i {call : yi_K} {sl : List Int} {M : zi_M} {f : yi_F} {v : Option yi_V} (hM : M.2.2.2.1 = some FieldType.int) (h : yi_stp call sl M f = some (.inr v)) : ∃ z, v = some (.inl z) := by
  unfold yi_stp at h
  split at h
  · rename_i e _
    split at h
    · cases h
    · rename_i w hd
      cases hi : zi_isr e.1 with
      | false => rw [hi] at h; cases h
      | true =>
        rw [hi] at h
        have h : (some (Sum.inr w) : yi_O) = some (Sum.inr v) := h
        cases h
        rw [hM] at hd
        generalize e.1 = i at hd hi
        generalize f.2.2.1 = st at hd
        have key : ∀ k, yi_ret k (some FieldType.int) st = some (Sum.inr v) → ∃ z, v = some (.inl z) := by
          intro k hk
          match st, hk with
          | [], hk => have hk : (none : yi_O) = some (Sum.inr v) := hk; cases hk
          | [.inl z], hk =>
            have key2 : ∀ b : Bool, (bif b then some (Sum.inr (some (.inl z))) else none : yi_O) = some (Sum.inr v) → ∃ z, v = some (.inl z) := by
              intro b hb
              cases b with
              | false => cases hb
              | true => have hb : (some (Sum.inr (some (.inl z))) : yi_O) = some (Sum.inr v) := hb; cases hb; exact ⟨z, rfl⟩
            exact key2 _ hk
          | [.inr (.inl z)], hk => have hk : (none : yi_O) = some (Sum.inr v) := hk; cases hk
          | [.inr (.inr z)], hk => have hk : (none : yi_O) = some (Sum.inr v) := hk; cases hk
          | _ :: _ :: _, hk => have hk : (none : yi_O) = some (Sum.inr v) := hk; cases hk
        cases i with
        | ireturn => exact key 0 hd
        | lreturn => exact key 1 hd
        | areturn => exact key 2 hd
        | return_ => have hd : (none : yi_O) = some (Sum.inr v) := hd; cases hd
        | _ => cases hi
    · cases h
  · cases h
theorem yi_loop_i {call : yi_K} {M : zi_M} (hM : M.2.2.2.1 = some FieldType.int) {r : yi_R} : ∀ (j : Nat) (f : yi_F), yi_loop call M j f = some r → ∃ z, r.1 = some (.inl z)
  | 0, f, h => by
    have h : (none : Option yi_R) = some r := h
    cases h
  | j + 1, f, h => by
    have h : (match yi_stp call [] M f with | some (.inl g) => bif yi_up f g then yi_loop call M j g else none | some (.inr v) => some (v, f.2.2.2.1, f.2.2.2.2.1, f.2.2.2.2.2) | none => none) = some r := h
    cases hs : yi_stp call [] M f with
    | none => rw [hs] at h; cases h
    | some q =>
      rw [hs] at h
      cases q with
      | inr v =>
        have h : some (v, f.2.2.2.1, f.2.2.2.2.1, f.2.2.2.2.2) = some r := h
        cases h
        exact yi_stp_i hM hs
      | inl g =>
        have h : (bif yi_up f g then yi_loop call M j g else none) = some r := h
        cases hu : yi_up f g with
        | false => rw [hu] at h; cases h
        | true => rw [hu] at h; exact yi_loop_i hM j g h
theorem yi_P_int {Ms : List zi_M} {d mi : Nat} {vs : List yi_V} {H : yi_H} {M : zi_M} (hM : Ms[mi]? = some M) (hr : M.2.2.2.1 = some FieldType.int) : yi_P Ms d mi vs H (fun r => ∃ z I' L' R' Y' n m, r = (some (.inl z), (I', L', R', Y'), n, m)) := by
  cases d with
  | zero => exact yi_P_0
  | succ d =>
    refine yi_P_s hM (fun k n j r hj e => ?_)
    have h := yi_loop_i hr j _ e
    obtain ⟨o, ⟨I', L', R', Y'⟩, n, m⟩ := r
    obtain ⟨z, h⟩ := h
    have h : o = some (.inl z) := h
    subst h
    exact ⟨z, I', L', R', Y', n, m, rfl⟩
theorem yi_P_a {Ms : List zi_M} {d mi : Nat} {vs : List yi_V} {H : yi_H} {Q1 Q2 : yi_R → Prop} (h : yi_P Ms d mi vs H Q1) (h2 : yi_P Ms d mi vs H Q2) : yi_P Ms d mi vs H (fun r => Q1 r ∧ Q2 r) := fun n r e => ⟨h n r e, h2 n r e⟩
def mk_C (R : Nat → Nat → Option Nat) (Y : (Nat → Nat) × (Nat → Nat) × Nat) : Prop := cn_I R Y ∧ (R 10 8 = some 57 ∧ 110 ≤ Y.2.2 ∧ Y.2.1 57 = 4 ∧ R 10 0 = some 11) ∧ ∀ k, k < 4 → ¬ R 57 k = some 57
section MKC
variable {I L I2 L2 : Nat → Nat → Int} {R R' : Nat → Nat → Option Nat} {Y Y' : (Nat → Nat) × (Nat → Nat) × Nat}
theorem cn_fg_k {c k : Nat} (hk : ¬ k = 8) : cn_fg c k = false := by
  unfold cn_fg
  rw [Bool.and_eq_false_iff]
  right
  cases h : Nat.beq k 8 with
  | true => exact absurd (Nat.eq_of_beq_eq_true h) hk
  | false => rfl
theorem mk_C_h (h : mk_C R Y) (hc : cn_H R Y R' Y') : mk_C R' Y' ∧ ∀ k, R' 57 k = R 57 k := by
  obtain ⟨h1, ⟨h2, h3, h4, h6⟩, h5⟩ := h
  obtain ⟨c1, c2, c3, c4, c5⟩ := hc
  exact ⟨⟨c1, ⟨(c3 8 (by omega)).trans h2, Nat.le_trans h3 c5, (c4 57 (by omega)).2.trans h4, (c3 0 (by omega)).trans h6⟩, fun k hk => by rw [c2 k]; exact h5 k hk⟩, c2⟩
theorem mk_C_nw {z x : Nat} (h : mk_C R Y) (m : yi_mkd z I L R Y I2 L2 R' Y' x) (hn : ∀ k, R' z k = none) : mk_C R' Y' ∧ ∀ k, R' 57 k = R 57 k := by
  obtain ⟨h1, ⟨h2, h3, h4, h6⟩, h5⟩ := h
  have c1 := cn_I_nw h1 m hn
  obtain ⟨m1, m2, m3, m4, m5, m6⟩ := m
  have e : ∀ p k, ¬ p = z → R' p k = R p k := fun p k hp => (m2 p k hp).2.2
  have hz : 110 ≤ z := by omega
  exact ⟨⟨c1, ⟨(e 10 8 (by omega)).trans h2, by omega, (m4 57 (by omega)).2.trans h4, (e 10 0 (by omega)).trans h6⟩, fun k hk => by rw [e 57 k (by omega)]; exact h5 k hk⟩, fun k => e 57 k (by omega)⟩
/-- another slot than the marks' -/
theorem mk_C_w {a b : Nat} (h : mk_C R Y) (hR : ∀ p k, ¬ (p = a ∧ k = b) → R' p k = R p k) (ha : ¬ a = 57) (hab : ¬ (a = 10 ∧ (b = 8 ∨ b = 0))) (hz : ∀ q', R' a b = some q' → q' < Y.2.2 ∧ ¬ q' = 57) : mk_C R' Y ∧ ∀ k, R' 57 k = R 57 k := by
  obtain ⟨h1, ⟨h2, h3, h4, h6⟩, h5⟩ := h
  exact ⟨⟨cn_I_w h1 hR hz, ⟨(hR 10 8 (by omega)).trans h2, h3, h4, (hR 10 0 (by omega)).trans h6⟩, fun k hk => by rw [hR 57 k (by omega)]; exact h5 k hk⟩, fun k => hR 57 k (by omega)⟩
/-- a mark's slot -/
theorem mk_C_s {b : Nat} (h : mk_C R Y) (hR : ∀ p k, ¬ (p = 57 ∧ k = b) → R' p k = R p k) (hz : ∀ q', R' 57 b = some q' → q' < Y.2.2 ∧ ¬ q' = 57) : mk_C R' Y := by
  obtain ⟨h1, ⟨h2, h3, h4, h6⟩, h5⟩ := h
  refine ⟨cn_I_w h1 hR hz, ⟨(hR 10 8 (by omega)).trans h2, h3, h4, (hR 10 0 (by omega)).trans h6⟩, fun k hk e => ?_⟩
  by_cases c : k = b
  · subst c
    exact (hz 57 e).2 rfl
  · rw [hR 57 k (by omega)] at e
    exact h5 k hk e
theorem mk_V (h : mk_C R Y) {p k : Nat} (hp : p < Y.2.2) (hq : ¬ p = 57) (hk : ¬ k = 8) : cq_V cn_pr Y.2.2 false (.inr (.inr (R p k))) := cn_I_V h.1 hp hq (cn_fg_k hk)
theorem mk_V1 (h : mk_C R Y) {q m : Nat} (hm : m < 4) (e : R 57 m = some q) : cq_V cn_pr Y.2.2 false (.inr (.inr (some q))) := cn_vp (fun z => h.2.2 m hm (by rw [e, z])) (cn_I_b h.1 (by have := h.2.1.2.1; omega) e)
def mk_Q (R R' : Nat → Nat → Option Nat) (m bk z : Int) : Prop := (((0 ≤ m ∧ m < 4) ∧ (bk = 0 ∨ ¬ R 57 m.toNat = none)) ∧ z = 1 ∨ ¬ ((0 ≤ m ∧ m < 4) ∧ (bk = 0 ∨ ¬ R 57 m.toNat = none)) ∧ z = 0) ∧ ∀ k : Nat, k < 4 → (R' 57 k = none ↔ R 57 k = none ∧ ¬ (z = 1 ∧ (k : Int) = m))
theorem mk_Q0 {m bk : Int} (h : ¬ ((0 ≤ m ∧ m < 4) ∧ (bk = 0 ∨ ¬ R 57 m.toNat = none))) : mk_Q R R m bk 0 := ⟨Or.inr ⟨h, rfl⟩, fun k _ => ⟨fun e => ⟨e, fun z => absurd z.1 (by decide)⟩, fun e => e.1⟩⟩
theorem mk_Q1 {m bk : Int} {q : Nat} (hm : 0 ≤ m ∧ m < 4) (hb : bk = 0 ∨ ¬ R 57 m.toNat = none) (hs : ∀ k, ¬ k = m.toNat → R' 57 k = R 57 k) (h1 : R' 57 m.toNat = some q) : mk_Q R R' m bk 1 := by
  refine ⟨Or.inl ⟨⟨hm, hb⟩, rfl⟩, fun k _ => ?_⟩
  by_cases c : k = m.toNat
  · subst c
    rw [h1]
    exact ⟨fun e => (by cases e), fun e => absurd ⟨rfl, by omega⟩ e.2⟩
  · rw [hs k c]
    exact ⟨fun e => ⟨e, fun z => c (by omega)⟩, fun e => e.1⟩
end MKC
theorem p_landM {d : Nat} {I L : Nat → Nat → Int} {R : Nat → Nat → Option Nat} {Y : (Nat → Nat) × (Nat → Nat) × Nat} (hC : mk_C R Y) : yi_P zi_Ms d 162 [.inr (.inr (some 10))] (I, L, R, Y) (fun r => ∃ z I' L' R' Y' n m, r = (some (.inl z), (I', L', R', Y'), n, m) ∧ mk_C R' Y' ∧ ((z = 0 ∧ ∀ k, k < 4 → R' 57 k = none) ∨ (¬ z = 0 ∧ ∀ k, R' 57 k = R 57 k))) := by
  refine yi_P_of (M := zi_m162) rfl (fun d k => ?_)
  have hN0 := hC.2.1.2.1
  show yi_D zi_Ms d zi_m162 k (0, [(0, .inr (.inr (some 10)))], [], (I, L, R, Y), 0, 0) _
  refine yi_D_run 1 (1, [(0, .inr (.inr (some 10)))], [.inr (.inr (some 10))], (I, L, R, Y), 0, 0) (fun _ => rfl) ?_
  refine yi_D_gr (v := R 10 1) rfl rfl rfl rfl (fun _ => ?_)
  refine yi_D_callv rfl (yi_P_a (yi_P_void (M := zi_m292) rfl rfl) (cn_P hC.1 (by decide +kernel) (cn_vn (mk_V hC (by omega) (by omega) (by omega)) cn_v0))) ?_
  rintro _ ⟨⟨I1, L2, R3, Y4, n5, m6, rfl⟩, hc7⟩
  have hk8 : mk_C R3 Y4 ∧ ∀ k, R3 57 k = R 57 k := mk_C_h hC hc7
  have hN9 := hk8.1.2.1.2.1
  have hM10 : Y.2.2 ≤ Y4.2.2 := hc7.2.2.2.2
  show yi_D zi_Ms d zi_m162 k (7, [(0, .inr (.inr (some 10)))], [], (I1, L2, R3, Y4), (0 + n5), (0 + m6)) _
  refine yi_D_new3 rfl (fun q11 I12 L13 R14 Y15 m16 mk17 mn18 ml19 my20 => ?_)
  obtain ⟨k21, k22, k23, k24, k25, k26⟩ := mk17
  have q11q : q11 = Y4.2.2 := k21
  have q11n := k26
  have hk27 := mk_C_nw hk8.1 ⟨k21, k22, k23, k24, k25, k26⟩ mn18
  have hk27N := hk27.1.2.1.2.1
  refine yi_D_run 1 (11, [(0, .inr (.inr (some 10)))], [.inr (.inr (some q11)), .inr (.inr (some q11))], (I12, L13, R14, Y15), ((0 + n5) + 1), m16) (fun _ => rfl) ?_
  refine yi_D_callp rfl rfl (yi_P_a (yi_P_void (M := zi_m219) rfl rfl) (cn_P hk27.1.1 (by decide +kernel) (cn_vn (cn_vp (by omega) (by omega)) cn_v0))) ?_
  rintro _ ⟨⟨I28, L29, R30, Y31, n32, m33, rfl⟩, hc34⟩
  have hk35 : mk_C R30 Y31 ∧ ∀ k, R30 57 k = R14 57 k := mk_C_h hk27.1 hc34
  have hN36 := hk35.1.2.1.2.1
  have hM37 : Y15.2.2 ≤ Y31.2.2 := hc34.2.2.2.2
  show yi_D zi_Ms d zi_m162 k (14, [(0, .inr (.inr (some 10)))], [.inr (.inr (some q11))], (I28, L29, R30, Y31), (((0 + n5) + 1) + n32), (m16 + m33)) _
  refine yi_D_run 2 (16, [(1, .inr (.inr (some q11))), (0, .inr (.inr (some 10)))], [.inr (.inr (some 10))], (I28, L29, R30, Y31), (((0 + n5) + 1) + n32), (m16 + m33)) (fun _ => rfl) ?_
  refine yi_D_gr (v := some 11) rfl rfl rfl hk35.1.2.1.2.2.2 (fun _ => ?_)
  refine yi_D_run 1 (20, [(1, .inr (.inr (some q11))), (0, .inr (.inr (some 10)))], [.inr (.inr (some q11)), .inr (.inr (some 11))], (I28, L29, R30, Y31), (((0 + n5) + 1) + n32), (m16 + m33)) (fun _ => rfl) ?_
  refine yi_D_callv rfl (yi_P_a (yi_P_int (M := zi_m258) rfl rfl) (cn_P hk35.1.1 (by decide +kernel) (cn_vn (cn_vp (by omega) (by omega)) (cn_vn (cn_vp (by omega) (by omega)) cn_v0)))) ?_
  rintro _ ⟨⟨z38, I39, L40, R41, Y42, n43, m44, rfl⟩, hc45⟩
  have hk46 : mk_C R41 Y42 ∧ ∀ k, R41 57 k = R30 57 k := mk_C_h hk35.1 hc45
  have hN47 := hk46.1.2.1.2.1
  have hM48 : Y31.2.2 ≤ Y42.2.2 := hc45.2.2.2.2
  show yi_D zi_Ms d zi_m162 k (23, [(1, .inr (.inr (some q11))), (0, .inr (.inr (some 10)))], [.inl z38], (I39, L40, R41, Y42), ((((0 + n5) + 1) + n32) + n43), ((m16 + m33) + m44)) _
  refine yi_D_run 2 (25, [(2, .inl z38), (1, .inr (.inr (some q11))), (0, .inr (.inr (some 10)))], [.inl z38], (I39, L40, R41, Y42), ((((0 + n5) + 1) + n32) + n43), ((m16 + m33) + m44)) (fun _ => rfl) ?_
  by_cases h49 : z38 = 0
  · refine yi_D_if1 true rfl (yi_eq_t h49) ?_
    refine yi_D_run 2 (32, [(2, .inl z38), (1, .inr (.inr (some q11))), (0, .inr (.inr (some 10)))], [.inr (.inr (some q11)), .inr (.inr (some 10))], (I39, L40, R41, Y42), ((((0 + n5) + 1) + n32) + n43), ((m16 + m33) + m44)) (fun _ => rfl) ?_
    refine yi_D_prw rfl (fun _ => ?_)
    generalize w51 : cl_u R41 10 16 (some q11) = R50
    have hk52 := mk_C_w (R' := R50) (a := 10) (b := 16) hk46.1 (fun p k hp => by rw [← w51, cl_u_ne _ _ hp]) (by omega) (by omega) (fun q' e => by rw [← w51, cl_u_eq] at e; cases e; exact ⟨by omega, by omega⟩)
    have hk52N := hk52.1.2.1.2.1
    refine yi_D_run 1 (36, [(2, .inl z38), (1, .inr (.inr (some q11))), (0, .inr (.inr (some 10)))], [.inr (.inr (some 10))], (I39, L40, R50, Y42), ((((0 + n5) + 1) + n32) + n43), ((m16 + m33) + m44)) (fun _ => rfl) ?_
    refine yi_D_gr (v := R50 10 2) rfl rfl rfl rfl (fun _ => ?_)
    refine yi_D_run 2 (41, [(2, .inl z38), (1, .inr (.inr (some q11))), (0, .inr (.inr (some 10)))], [.inr (.inr (some 10)), .inr (.inr (some q11)), .inr (.inr (R50 10 2))], (I39, L40, R50, Y42), ((((0 + n5) + 1) + n32) + n43), ((m16 + m33) + m44)) (fun _ => rfl) ?_
    refine yi_D_gr (v := some 11) rfl rfl rfl hk52.1.2.1.2.2.2 (fun _ => ?_)
    refine yi_D_gr (v := R50 11 2) rfl rfl rfl rfl (fun _ => ?_)
    refine yi_D_callv rfl (yi_P_a (yi_P_void (M := zi_m303) rfl rfl) (cn_P hk52.1.1 (by decide +kernel) (cn_vn (mk_V hk52.1 (by omega) (by omega) (by omega)) (cn_vn (cn_vp (by omega) (by omega)) (cn_vn (mk_V hk52.1 (by omega) (by omega) (by omega)) cn_v0))))) ?_
    rintro _ ⟨⟨I53, L54, R55, Y56, n57, m58, rfl⟩, hc59⟩
    have hk60 : mk_C R55 Y56 ∧ ∀ k, R55 57 k = R50 57 k := mk_C_h hk52.1 hc59
    have hN61 := hk60.1.2.1.2.1
    have hM62 : Y42.2.2 ≤ Y56.2.2 := hc59.2.2.2.2
    show yi_D zi_Ms d zi_m162 k (50, [(2, .inl z38), (1, .inr (.inr (some q11))), (0, .inr (.inr (some 10)))], [], (I53, L54, R55, Y56), (((((0 + n5) + 1) + n32) + n43) + n57), (((m16 + m33) + m44) + m58)) _
    refine yi_D_run 1 (51, [(2, .inl z38), (1, .inr (.inr (some q11))), (0, .inr (.inr (some 10)))], [.inr (.inr (some 10))], (I53, L54, R55, Y56), (((((0 + n5) + 1) + n32) + n43) + n57), (((m16 + m33) + m44) + m58)) (fun _ => rfl) ?_
    refine yi_D_gr (v := R55 10 6) rfl rfl rfl rfl (fun _ => ?_)
    refine yi_D_run 1 (55, [(2, .inl z38), (1, .inr (.inr (some q11))), (0, .inr (.inr (some 10)))], [.inr (.inr (some q11)), .inr (.inr (R55 10 6))], (I53, L54, R55, Y56), (((((0 + n5) + 1) + n32) + n43) + n57), (((m16 + m33) + m44) + m58)) (fun _ => rfl) ?_
    refine yi_D_callv rfl (yi_P_a (yi_P_void (M := zi_m277) rfl rfl) (cn_P hk60.1.1 (by decide +kernel) (cn_vn (mk_V hk60.1 (by omega) (by omega) (by omega)) (cn_vn (cn_vp (by omega) (by omega)) cn_v0)))) ?_
    rintro _ ⟨⟨I63, L64, R65, Y66, n67, m68, rfl⟩, hc69⟩
    have hk70 : mk_C R65 Y66 ∧ ∀ k, R65 57 k = R55 57 k := mk_C_h hk60.1 hc69
    have hN71 := hk70.1.2.1.2.1
    have hM72 : Y56.2.2 ≤ Y66.2.2 := hc69.2.2.2.2
    show yi_D zi_Ms d zi_m162 k (58, [(2, .inl z38), (1, .inr (.inr (some q11))), (0, .inr (.inr (some 10)))], [], (I63, L64, R65, Y66), ((((((0 + n5) + 1) + n32) + n43) + n57) + n67), ((((m16 + m33) + m44) + m58) + m68)) _
    refine yi_D_run 1 (59, [(2, .inl z38), (1, .inr (.inr (some q11))), (0, .inr (.inr (some 10)))], [.inr (.inr (some 10))], (I63, L64, R65, Y66), ((((((0 + n5) + 1) + n32) + n43) + n57) + n67), ((((m16 + m33) + m44) + m58) + m68)) (fun _ => rfl) ?_
    refine yi_D_callv rfl (yi_P_a (yi_P_void (M := zi_m152) rfl rfl) (cn_P hk70.1.1 (by decide +kernel) (cn_vn (cn_vp (by omega) (by omega)) cn_v0))) ?_
    rintro _ ⟨⟨I73, L74, R75, Y76, n77, m78, rfl⟩, hc79⟩
    have hk80 : mk_C R75 Y76 ∧ ∀ k, R75 57 k = R65 57 k := mk_C_h hk70.1 hc79
    have hN81 := hk80.1.2.1.2.1
    have hM82 : Y66.2.2 ≤ Y76.2.2 := hc79.2.2.2.2
    show yi_D zi_Ms d zi_m162 k (62, [(2, .inl z38), (1, .inr (.inr (some q11))), (0, .inr (.inr (some 10)))], [], (I73, L74, R75, Y76), (((((((0 + n5) + 1) + n32) + n43) + n57) + n67) + n77), (((((m16 + m33) + m44) + m58) + m68) + m78)) _
    refine yi_D_run 2 (64, [(3, .inl 0), (2, .inl z38), (1, .inr (.inr (some q11))), (0, .inr (.inr (some 10)))], [], (I73, L74, R75, Y76), (((((((0 + n5) + 1) + n32) + n43) + n57) + n67) + n77), (((((m16 + m33) + m44) + m58) + m68) + m78)) (fun _ => rfl) ?_
    have pt64 : ∀ j64, j64 ≤ k → ∀ (y3 : Int) (J1 : Nat → Nat → Int) (G1 : Nat → Nat → Int) (R1 : Nat → Nat → Option Nat) (Y1 : (Nat → Nat) × (Nat → Nat) × Nat) (n1 : Nat) (m1 : Nat), (0 ≤ y3 ∧ y3 ≤ 4) → (mk_C R1 Y1) → (∀ k : Nat, (k : Int) < y3 → R1 57 k = none) → yi_D zi_Ms d zi_m162 j64 (64, [(3, .inl y3), (2, .inl z38), (1, .inr (.inr (some q11))), (0, .inr (.inr (some 10)))], [], (J1, G1, R1, Y1), n1, m1) (fun r => ∃ z I' L' R' Y' n m, r = (some (.inl z), (I', L', R', Y'), n, m) ∧ mk_C R' Y' ∧ ((z = 0 ∧ ∀ k, k < 4 → R' 57 k = none) ∨ (¬ z = 0 ∧ ∀ k, R' 57 k = R 57 k))) := by
      intro j64
      induction j64 with
      | zero => intros; exact yi_D_0
      | succ j64 ih64 =>
      intro hk64 y3 J1 G1 R1 Y1 n1 m1 hy hmk hz
      have hN1 := hmk.2.1.2.1
      refine yi_D_run1 1 (66, [(3, .inl y3), (2, .inl z38), (1, .inr (.inr (some q11))), (0, .inr (.inr (some 10)))], [.inr (.inr (some 10)), .inl y3], (J1, G1, R1, Y1), n1, m1) (fun _ => rfl) ?_
      refine yi_D_gr (v := some 57) rfl rfl rfl hmk.2.1.1 (fun _ => ?_)
      refine yi_D_len (v := 4) rfl rfl (by rw [hmk.2.1.2.2.1]; rfl) ?_
      by_cases h83 : 4 ≤ y3
      · refine yi_D_if2 true rfl (yi_ge_t h83) ?_
        refine yi_D_run 1 (87, [(3, .inl y3), (2, .inl z38), (1, .inr (.inr (some q11))), (0, .inr (.inr (some 10)))], [.inr (.inr (some 10))], (J1, G1, R1, Y1), n1, m1) (fun _ => rfl) ?_
        refine yi_D_callv rfl (yi_P_a (yi_P_void (M := zi_m169) rfl rfl) (cn_P hmk.1 (by decide +kernel) (cn_vn (cn_vp (by omega) (by omega)) cn_v0))) ?_
        rintro _ ⟨⟨I84, L85, R86, Y87, n88, m89, rfl⟩, hc90⟩
        have hk91 : mk_C R86 Y87 ∧ ∀ k, R86 57 k = R1 57 k := mk_C_h hmk hc90
        have hN92 := hk91.1.2.1.2.1
        have hM93 : Y1.2.2 ≤ Y87.2.2 := hc90.2.2.2.2
        show yi_D zi_Ms d zi_m162 j64 (90, [(3, .inl y3), (2, .inl z38), (1, .inr (.inr (some q11))), (0, .inr (.inr (some 10)))], [], (I84, L85, R86, Y87), (n1 + n88), (m1 + m89)) _
        refine yi_D_run 1 (91, [(3, .inl y3), (2, .inl z38), (1, .inr (.inr (some q11))), (0, .inr (.inr (some 10)))], [.inl 0], (I84, L85, R86, Y87), (n1 + n88), (m1 + m89)) (fun _ => rfl) ?_
        refine yi_D_reti rfl ?_
        exact ⟨_, _, _, _, _, _, _, rfl, hk91.1, Or.inl ⟨rfl, fun k hk => (hk91.2 k).trans (hz k (by omega))⟩⟩
      · refine yi_D_if2 false rfl (yi_ge_f h83) ?_
        refine yi_D_run 1 (74, [(3, .inl y3), (2, .inl z38), (1, .inr (.inr (some q11))), (0, .inr (.inr (some 10)))], [.inr (.inr (some 10))], (J1, G1, R1, Y1), n1, m1) (fun _ => rfl) ?_
        refine yi_D_gr (v := some 57) rfl rfl rfl hmk.2.1.1 (fun _ => ?_)
        refine yi_D_run 2 (79, [(3, .inl y3), (2, .inl z38), (1, .inr (.inr (some q11))), (0, .inr (.inr (some 10)))], [.inr (.inr none), .inl y3, .inr (.inr (some 57))], (J1, G1, R1, Y1), n1, m1) (fun _ => rfl) ?_
        refine yi_D_asw rfl (fun _ _ => ?_)
        generalize w95 : cl_u R1 57 (y3.toNat) none = R94
        have hk96 := mk_C_s (R' := R94) hmk (fun p k hp => by rw [← w95, cl_u_ne _ _ hp]) (fun q' e => by rw [← w95, cl_u_eq] at e; cases e)
        refine yi_D_iinc [(3, .inl (y3 + 1)), (2, .inl z38), (1, .inr (.inr (some q11))), (0, .inr (.inr (some 10)))] rfl rfl rfl (by rw [show yi_w (y3 + 1) = y3 + 1 from (yi_wn (by omega) (by omega)).trans (by omega)]; rfl) ?_
        refine yi_D_run 1 (64, [(3, .inl (y3 + 1)), (2, .inl z38), (1, .inr (.inr (some q11))), (0, .inr (.inr (some 10)))], [], (J1, G1, R94, Y1), n1, m1) (fun _ => rfl) ?_
        exact yi_D_mono (ih64 (by omega) (y3 + 1) J1 G1 R94 Y1 n1 m1 (by omega) (hk96) (fun k hk => by by_cases e : (k : Int) = y3; rw [← w95, show k = y3.toNat by omega, cl_u_eq]; rw [← w95, cl_u_ne _ _ (by omega)]; exact hz k (by omega))) (by omega)
    exact pt64 k (Nat.le_refl _) 0 I73 L74 R75 Y76 (((((((0 + n5) + 1) + n32) + n43) + n57) + n67) + n77) (((((m16 + m33) + m44) + m58) + m68) + m78) (by omega) (hk80.1) (fun k hk => absurd hk (by omega))
  · refine yi_D_if1 false rfl (yi_eq_f h49) ?_
    refine yi_D_run 1 (29, [(2, .inl z38), (1, .inr (.inr (some q11))), (0, .inr (.inr (some 10)))], [.inl z38], (I39, L40, R41, Y42), ((((0 + n5) + 1) + n32) + n43), ((m16 + m33) + m44)) (fun _ => rfl) ?_
    refine yi_D_reti rfl ?_
    exact ⟨_, _, _, _, _, _, _, rfl, hk46.1, Or.inr ⟨by assumption, fun k => by rw [hk46.2 k, hk35.2 k, hk27.2 k, hk8.2 k]⟩⟩
theorem p_markM {d : Nat} {I L : Nat → Nat → Int} {R : Nat → Nat → Option Nat} {Y : (Nat → Nat) × (Nat → Nat) × Nat} (hC : mk_C R Y) {x y : Int} : yi_P zi_Ms d 165 [.inr (.inr (some 10)), .inl x, .inl y] (I, L, R, Y) (fun r => ∃ z I' L' R' Y' n m, r = (some (.inl z), (I', L', R', Y'), n, m) ∧ mk_C R' Y' ∧ mk_Q R R' x y z) := by
  refine yi_P_of (M := zi_m165) rfl (fun d k => ?_)
  have hN0 := hC.2.1.2.1
  show yi_D zi_Ms d zi_m165 k (0, [(0, .inr (.inr (some 10))), (1, .inl x), (2, .inl y)], [], (I, L, R, Y), 0, 0) _
  refine yi_D_run 1 (1, [(0, .inr (.inr (some 10))), (1, .inl x), (2, .inl y)], [.inl x], (I, L, R, Y), 0, 0) (fun _ => rfl) ?_
  by_cases h1 : x < 0
  · refine yi_D_if1 true rfl (yi_lt_t h1) ?_
    refine yi_D_run 1 (14, [(0, .inr (.inr (some 10))), (1, .inl x), (2, .inl y)], [.inl 0], (I, L, R, Y), 0, 0) (fun _ => rfl) ?_
    refine yi_D_reti rfl ?_
    exact ⟨_, _, _, _, _, _, _, rfl, hC, mk_Q0 (fun h => absurd h.1 (by omega))⟩
  · refine yi_D_if1 false rfl (yi_lt_f h1) ?_
    refine yi_D_run 2 (6, [(0, .inr (.inr (some 10))), (1, .inl x), (2, .inl y)], [.inr (.inr (some 10)), .inl x], (I, L, R, Y), 0, 0) (fun _ => rfl) ?_
    refine yi_D_gr (v := some 57) rfl rfl rfl hC.2.1.1 (fun _ => ?_)
    refine yi_D_len (v := 4) rfl rfl (by rw [hC.2.1.2.2.1]; rfl) ?_
    by_cases h2 : x < 4
    · refine yi_D_if2 true rfl (yi_lt_t h2) ?_
      refine yi_D_run 1 (16, [(0, .inr (.inr (some 10))), (1, .inl x), (2, .inl y)], [.inr (.inr (some 10))], (I, L, R, Y), 0, 0) (fun _ => rfl) ?_
      refine yi_D_gr (v := some 57) rfl rfl rfl hC.2.1.1 (fun _ => ?_)
      refine yi_D_run 1 (20, [(0, .inr (.inr (some 10))), (1, .inl x), (2, .inl y)], [.inl x, .inr (.inr (some 57))], (I, L, R, Y), 0, 0) (fun _ => rfl) ?_
      refine yi_D_rl (v := R 57 (x.toNat)) rfl rfl rfl (fun _ _ => ?_)
      cases hq3 : R 57 (x.toNat) with
      | none =>
        refine yi_D_run 2 (23, [(3, .inr (.inr none)), (0, .inr (.inr (some 10))), (1, .inl x), (2, .inl y)], [.inl y], (I, L, R, Y), 0, 0) (fun _ => rfl) ?_
        by_cases h5 : y = 0
        · refine yi_D_if1 true rfl (yi_eq_t h5) ?_
          refine yi_D_run 1 (51, [(3, .inr (.inr none)), (0, .inr (.inr (some 10))), (1, .inl x), (2, .inl y)], [.inr (.inr none)], (I, L, R, Y), 0, 0) (fun _ => rfl) ?_
          refine yi_D_nnx rfl ?_
          refine yi_D_new3 rfl (fun q6 I7 L8 R9 Y10 m11 mk12 mn13 ml14 my15 => ?_)
          obtain ⟨k16, k17, k18, k19, k20, k21⟩ := mk12
          have q6q : q6 = Y.2.2 := k16
          have q6n := k21
          have hk22 := mk_C_nw hC ⟨k16, k17, k18, k19, k20, k21⟩ mn13
          have hk22N := hk22.1.2.1.2.1
          refine yi_D_run 1 (58, [(3, .inr (.inr none)), (0, .inr (.inr (some 10))), (1, .inl x), (2, .inl y)], [.inr (.inr (some q6)), .inr (.inr (some q6))], (I7, L8, R9, Y10), (0 + 1), m11) (fun _ => rfl) ?_
          refine yi_D_callp rfl rfl (yi_P_a (yi_P_void (M := zi_m274) rfl rfl) (cn_P hk22.1.1 (by decide +kernel) (cn_vn (cn_vp (by omega) (by omega)) cn_v0))) ?_
          rintro _ ⟨⟨I23, L24, R25, Y26, n27, m28, rfl⟩, hc29⟩
          have hk30 : mk_C R25 Y26 ∧ ∀ k, R25 57 k = R9 57 k := mk_C_h hk22.1 hc29
          have hN31 := hk30.1.2.1.2.1
          have hM32 : Y10.2.2 ≤ Y26.2.2 := hc29.2.2.2.2
          show yi_D zi_Ms d zi_m165 k (61, [(3, .inr (.inr none)), (0, .inr (.inr (some 10))), (1, .inl x), (2, .inl y)], [.inr (.inr (some q6))], (I23, L24, R25, Y26), ((0 + 1) + n27), (m11 + m28)) _
          refine yi_D_run 2 (63, [(3, .inr (.inr (some q6))), (0, .inr (.inr (some 10))), (1, .inl x), (2, .inl y)], [.inr (.inr (some 10))], (I23, L24, R25, Y26), ((0 + 1) + n27), (m11 + m28)) (fun _ => rfl) ?_
          refine yi_D_gr (v := some 57) rfl rfl rfl hk30.1.2.1.1 (fun _ => ?_)
          refine yi_D_run 2 (68, [(3, .inr (.inr (some q6))), (0, .inr (.inr (some 10))), (1, .inl x), (2, .inl y)], [.inr (.inr (some q6)), .inl x, .inr (.inr (some 57))], (I23, L24, R25, Y26), ((0 + 1) + n27), (m11 + m28)) (fun _ => rfl) ?_
          refine yi_D_asw rfl (fun _ _ => ?_)
          generalize w34 : cl_u R25 57 (x.toNat) (some q6) = R33
          have hk35 := mk_C_s (R' := R33) hk30.1 (fun p k hp => by rw [← w34, cl_u_ne _ _ hp]) (fun q' e => by rw [← w34, cl_u_eq] at e; cases e; exact ⟨by omega, by omega⟩)
          have hk35N := hk35.2.1.2.1
          refine yi_D_run 2 (71, [(3, .inr (.inr (some q6))), (0, .inr (.inr (some 10))), (1, .inl x), (2, .inl y)], [.inr (.inr (some 10)), .inr (.inr (some q6))], (I23, L24, R33, Y26), ((0 + 1) + n27), (m11 + m28)) (fun _ => rfl) ?_
          refine yi_D_gr (v := R33 10 6) rfl rfl rfl rfl (fun _ => ?_)
          refine yi_D_callv rfl (yi_P_a (yi_P_void (M := zi_m280) rfl rfl) (cn_P hk35.1 (by decide +kernel) (cn_vn (cn_vp (by omega) (by omega)) (cn_vn (mk_V hk35 (by omega) (by omega) (by omega)) cn_v0)))) ?_
          rintro _ ⟨⟨I36, L37, R38, Y39, n40, m41, rfl⟩, hc42⟩
          have hk43 : mk_C R38 Y39 ∧ ∀ k, R38 57 k = R33 57 k := mk_C_h hk35 hc42
          have hN44 := hk43.1.2.1.2.1
          have hM45 : Y26.2.2 ≤ Y39.2.2 := hc42.2.2.2.2
          show yi_D zi_Ms d zi_m165 k (77, [(3, .inr (.inr (some q6))), (0, .inr (.inr (some 10))), (1, .inl x), (2, .inl y)], [], (I36, L37, R38, Y39), (((0 + 1) + n27) + n40), ((m11 + m28) + m41)) _
          refine yi_D_run 1 (78, [(3, .inr (.inr (some q6))), (0, .inr (.inr (some 10))), (1, .inl x), (2, .inl y)], [.inl 1], (I36, L37, R38, Y39), (((0 + 1) + n27) + n40), ((m11 + m28) + m41)) (fun _ => rfl) ?_
          refine yi_D_reti rfl ?_
          exact ⟨_, _, _, _, _, _, _, rfl, hk43.1, mk_Q1 (by omega) (by first | exact Or.inl (by assumption) | exact Or.inr (by rw [hq3]; exact fun e => by cases e)) (fun k hk => by rw [hk43.2 k, ← w34, cl_u_ne _ _ (fun z => hk z.2), hk30.2 k, hk22.2 k]) (by rw [hk43.2 x.toNat, ← w34, cl_u_eq])⟩
        · refine yi_D_if1 false rfl (yi_eq_f h5) ?_
          refine yi_D_run 1 (27, [(3, .inr (.inr none)), (0, .inr (.inr (some 10))), (1, .inl x), (2, .inl y)], [.inr (.inr none)], (I, L, R, Y), 0, 0) (fun _ => rfl) ?_
          refine yi_D_nnx rfl ?_
          refine yi_D_run 1 (31, [(3, .inr (.inr none)), (0, .inr (.inr (some 10))), (1, .inl x), (2, .inl y)], [.inl 0], (I, L, R, Y), 0, 0) (fun _ => rfl) ?_
          refine yi_D_reti rfl ?_
          exact ⟨_, _, _, _, _, _, _, rfl, hC, mk_Q0 (fun h => h.2.elim (fun e => absurd e (by assumption)) (fun e => e hq3))⟩
      | some q4 =>
        refine yi_D_run 2 (23, [(3, .inr (.inr (some q4))), (0, .inr (.inr (some 10))), (1, .inl x), (2, .inl y)], [.inl y], (I, L, R, Y), 0, 0) (fun _ => rfl) ?_
        by_cases h46 : y = 0
        · refine yi_D_if1 true rfl (yi_eq_t h46) ?_
          refine yi_D_run 1 (51, [(3, .inr (.inr (some q4))), (0, .inr (.inr (some 10))), (1, .inl x), (2, .inl y)], [.inr (.inr (some q4))], (I, L, R, Y), 0, 0) (fun _ => rfl) ?_
          refine yi_D_nsx rfl ?_
          skip
          refine yi_D_run 2 (71, [(3, .inr (.inr (some q4))), (0, .inr (.inr (some 10))), (1, .inl x), (2, .inl y)], [.inr (.inr (some 10)), .inr (.inr (some q4))], (I, L, R, Y), 0, 0) (fun _ => rfl) ?_
          refine yi_D_gr (v := R 10 6) rfl rfl rfl rfl (fun _ => ?_)
          refine yi_D_callv rfl (yi_P_a (yi_P_void (M := zi_m280) rfl rfl) (cn_P hC.1 (by decide +kernel) (cn_vn (cq_V_N (by omega) (mk_V1 hC (by omega) hq3)) (cn_vn (mk_V hC (by omega) (by omega) (by omega)) cn_v0)))) ?_
          rintro _ ⟨⟨I47, L48, R49, Y50, n51, m52, rfl⟩, hc53⟩
          have hk54 : mk_C R49 Y50 ∧ ∀ k, R49 57 k = R 57 k := mk_C_h hC hc53
          have hN55 := hk54.1.2.1.2.1
          have hM56 : Y.2.2 ≤ Y50.2.2 := hc53.2.2.2.2
          show yi_D zi_Ms d zi_m165 k (77, [(3, .inr (.inr (some q4))), (0, .inr (.inr (some 10))), (1, .inl x), (2, .inl y)], [], (I47, L48, R49, Y50), (0 + n51), (0 + m52)) _
          refine yi_D_run 1 (78, [(3, .inr (.inr (some q4))), (0, .inr (.inr (some 10))), (1, .inl x), (2, .inl y)], [.inl 1], (I47, L48, R49, Y50), (0 + n51), (0 + m52)) (fun _ => rfl) ?_
          refine yi_D_reti rfl ?_
          exact ⟨_, _, _, _, _, _, _, rfl, hk54.1, mk_Q1 (by omega) (by first | exact Or.inl (by assumption) | exact Or.inr (by rw [hq3]; exact fun e => by cases e)) (fun k _ => by rw [hk54.2 k]) (by rw [hk54.2 x.toNat]; exact hq3)⟩
        · refine yi_D_if1 false rfl (yi_eq_f h46) ?_
          refine yi_D_run 1 (27, [(3, .inr (.inr (some q4))), (0, .inr (.inr (some 10))), (1, .inl x), (2, .inl y)], [.inr (.inr (some q4))], (I, L, R, Y), 0, 0) (fun _ => rfl) ?_
          refine yi_D_nsx rfl ?_
          refine yi_D_run 1 (33, [(3, .inr (.inr (some q4))), (0, .inr (.inr (some 10))), (1, .inl x), (2, .inl y)], [.inr (.inr (some 10))], (I, L, R, Y), 0, 0) (fun _ => rfl) ?_
          refine yi_D_gr (v := R 10 6) rfl rfl rfl rfl (fun _ => ?_)
          refine yi_D_run 1 (37, [(3, .inr (.inr (some q4))), (0, .inr (.inr (some 10))), (1, .inl x), (2, .inl y)], [.inr (.inr (some q4)), .inr (.inr (R 10 6))], (I, L, R, Y), 0, 0) (fun _ => rfl) ?_
          refine yi_D_callv rfl (yi_P_a (yi_P_void (M := zi_m280) rfl rfl) (cn_P hC.1 (by decide +kernel) (cn_vn (mk_V hC (by omega) (by omega) (by omega)) (cn_vn (cq_V_N (by omega) (mk_V1 hC (by omega) hq3)) cn_v0)))) ?_
          rintro _ ⟨⟨I57, L58, R59, Y60, n61, m62, rfl⟩, hc63⟩
          have hk64 : mk_C R59 Y60 ∧ ∀ k, R59 57 k = R 57 k := mk_C_h hC hc63
          have hN65 := hk64.1.2.1.2.1
          have hM66 : Y.2.2 ≤ Y60.2.2 := hc63.2.2.2.2
          show yi_D zi_Ms d zi_m165 k (40, [(3, .inr (.inr (some q4))), (0, .inr (.inr (some 10))), (1, .inl x), (2, .inl y)], [], (I57, L58, R59, Y60), (0 + n61), (0 + m62)) _
          refine yi_D_run 1 (41, [(3, .inr (.inr (some q4))), (0, .inr (.inr (some 10))), (1, .inl x), (2, .inl y)], [.inr (.inr (some 10))], (I57, L58, R59, Y60), (0 + n61), (0 + m62)) (fun _ => rfl) ?_
          refine yi_D_callv rfl (yi_P_a (yi_P_void (M := zi_m152) rfl rfl) (cn_P hk64.1.1 (by decide +kernel) (cn_vn (cn_vp (by omega) (by omega)) cn_v0))) ?_
          rintro _ ⟨⟨I67, L68, R69, Y70, n71, m72, rfl⟩, hc73⟩
          have hk74 : mk_C R69 Y70 ∧ ∀ k, R69 57 k = R59 57 k := mk_C_h hk64.1 hc73
          have hN75 := hk74.1.2.1.2.1
          have hM76 : Y60.2.2 ≤ Y70.2.2 := hc73.2.2.2.2
          show yi_D zi_Ms d zi_m165 k (44, [(3, .inr (.inr (some q4))), (0, .inr (.inr (some 10))), (1, .inl x), (2, .inl y)], [], (I67, L68, R69, Y70), ((0 + n61) + n71), ((0 + m62) + m72)) _
          refine yi_D_run 1 (45, [(3, .inr (.inr (some q4))), (0, .inr (.inr (some 10))), (1, .inl x), (2, .inl y)], [.inr (.inr (some 10))], (I67, L68, R69, Y70), ((0 + n61) + n71), ((0 + m62) + m72)) (fun _ => rfl) ?_
          refine yi_D_callv rfl (yi_P_a (yi_P_void (M := zi_m169) rfl rfl) (cn_P hk74.1.1 (by decide +kernel) (cn_vn (cn_vp (by omega) (by omega)) cn_v0))) ?_
          rintro _ ⟨⟨I77, L78, R79, Y80, n81, m82, rfl⟩, hc83⟩
          have hk84 : mk_C R79 Y80 ∧ ∀ k, R79 57 k = R69 57 k := mk_C_h hk74.1 hc83
          have hN85 := hk84.1.2.1.2.1
          have hM86 : Y70.2.2 ≤ Y80.2.2 := hc83.2.2.2.2
          show yi_D zi_Ms d zi_m165 k (48, [(3, .inr (.inr (some q4))), (0, .inr (.inr (some 10))), (1, .inl x), (2, .inl y)], [], (I77, L78, R79, Y80), (((0 + n61) + n71) + n81), (((0 + m62) + m72) + m82)) _
          refine yi_D_run 1 (49, [(3, .inr (.inr (some q4))), (0, .inr (.inr (some 10))), (1, .inl x), (2, .inl y)], [.inl 1], (I77, L78, R79, Y80), (((0 + n61) + n71) + n81), (((0 + m62) + m72) + m82)) (fun _ => rfl) ?_
          refine yi_D_reti rfl ?_
          exact ⟨_, _, _, _, _, _, _, rfl, hk84.1, mk_Q1 (by omega) (by first | exact Or.inl (by assumption) | exact Or.inr (by rw [hq3]; exact fun e => by cases e)) (fun k _ => by rw [hk84.2 k, hk74.2 k, hk64.2 k]) (by rw [hk84.2 x.toNat, hk74.2 x.toNat, hk64.2 x.toNat]; exact hq3)⟩
    · refine yi_D_if2 false rfl (yi_lt_f h2) ?_
      refine yi_D_run 1 (14, [(0, .inr (.inr (some 10))), (1, .inl x), (2, .inl y)], [.inl 0], (I, L, R, Y), 0, 0) (fun _ => rfl) ?_
      refine yi_D_reti rfl ?_
      exact ⟨_, _, _, _, _, _, _, rfl, hC, mk_Q0 (fun h => absurd h.1 (by omega))⟩
