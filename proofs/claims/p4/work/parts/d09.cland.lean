/-! The land of the class, as later calls find it. -/
theorem yi_P_a {Ms : List zi_M} {d mi : Nat} {vs : List yi_V} {H : yi_H} {Q1 Q2 : yi_R → Prop} (h : yi_P Ms d mi vs H Q1) (h2 : yi_P Ms d mi vs H Q2) : yi_P Ms d mi vs H (fun r => Q1 r ∧ Q2 r) := fun n r e => ⟨h n r e, h2 n r e⟩
def lq_C (q : Nat) (ld : Nat → Int) (nm : Int → Int) (I L : Nat → Nat → Int) (R : Nat → Nat → Option Nat) (Y : (Nat → Nat) × (Nat → Nat) × Nat) : Prop := ∃ R2 : Nat → Nat → Option Nat, (∀ p k, ¬ (p = 11 ∧ k = 6) → R2 p k = R p k) ∧ cs_Ld I L R2 Y q ld nm
def lq_R (q : Nat) (ld : Nat → Int) (nm : Int → Int) (I L : Nat → Nat → Int) (R : Nat → Nat → Option Nat) (Y : (Nat → Nat) × (Nat → Nat) × Nat) : Prop := (58 ≤ q ∧ (q + 13 < 82 ∨ 110 ≤ q) ∧ R 10 16 = some q ∧ R 10 8 = some 57 ∧ 110 ≤ Y.2.2) ∧ cw_I q R Y ∧ lq_C q ld nm I L R Y
section LQ
variable {q : Nat} {ld : Nat → Int} {nm : Int → Int} {I L I' L' : Nat → Nat → Int} {R R' : Nat → Nat → Option Nat} {Y Y' : (Nat → Nat) × (Nat → Nat) × Nat}
theorem lq_C_t (h : lq_C q ld nm I L R Y) (f : ∀ p k, q ≤ p → p ≤ q + 13 → I' p k = I p k ∧ L' p k = L p k ∧ R' p k = R p k) (fY : ∀ p, p < Y.2.2 → Y'.2.1 p = Y.2.1 p) (fN : Y.2.2 ≤ Y'.2.2) : lq_C q ld nm I' L' R' Y' := by
  obtain ⟨R2, e, ⟨⟨h20, _, hr, ⟨y1, y2, y3, y4⟩⟩, ⟨i1, i2, i3, i4, i5, i6⟩, hb, hp, hv, ⟨n1, n2, n3⟩, ht, hw⟩⟩ := h
  have L1 : L' (q + 1) = L (q + 1) := funext fun k => (f _ k (by omega) (by omega)).2.1
  have L2 : L' (q + 2) = L (q + 2) := funext fun k => (f _ k (by omega) (by omega)).2.1
  have L3 : L' (q + 3) = L (q + 3) := funext fun k => (f _ k (by omega) (by omega)).2.1
  have I0 : I' q = I q := funext fun k => (f _ k (by omega) (by omega)).1
  have I4 : I' (q + 4) = I (q + 4) := funext fun k => (f _ k (by omega) (by omega)).1
  have I5 : I' (q + 5) = I (q + 5) := funext fun k => (f _ k (by omega) (by omega)).1
  have I6 : I' (q + 6) = I (q + 6) := funext fun k => (f _ k (by omega) (by omega)).1
  refine ⟨fun p k => if p = 11 ∧ k = 6 then some q else R' p k, fun p k hp => if_neg hp, ⟨⟨h20, if_pos ⟨rfl, rfl⟩, fun j hj => ?_, ⟨(fY _ (by omega)).trans y1, (fY _ (by omega)).trans y2, (fY _ (by omega)).trans y3, Nat.le_trans y4 fN⟩⟩, ?_, hb, ?_, hv, ?_, ?_, ?_⟩⟩
  · show (if q = 11 ∧ j = 6 then some q else R' q j) = _
    rw [if_neg (by omega), (f q j (by omega) (by omega)).2.2, ← e q j (by omega)]
    exact hr j hj
  · rw [I0]; exact ⟨i1, i2, i3, i4, i5, i6⟩
  · rw [I0]; exact hp
  · unfold cs_N at n1 n2 n3 ⊢
    rw [L1, L2, L3]
    exact ⟨n1, n2, n3⟩
  · rw [I4]; exact ht
  · rw [I5, I6]; exact hw
theorem cw_I_w {a b : Nat} (h : cw_I q R Y) (hR : ∀ p k, ¬ (p = a ∧ k = b) → R' p k = R p k) (hz : ∀ q', R' a b = some q' → q' < Y.2.2 ∧ (cw_pr q q' = true → cw_fg (Y.1 a) b = true)) : cw_I q R' Y := fun I L => ⟨fun p k q' hp e => by
  have e : R' p k = some q' := e
  by_cases c : p = a ∧ k = b
  · obtain ⟨rfl, rfl⟩ := c
    exact ⟨(hz q' e).1, fun hq => Or.inr (Or.inl ((hz q' e).2 hq))⟩
  · rw [hR p k c] at e
    exact (h I L).1 p k q' hp e, (h I L).2⟩
theorem cw_I_b (h : cw_I q R Y) {p k q' : Nat} (hp : p < Y.2.2) (e : R p k = some q') : q' < Y.2.2 := ((h (fun _ _ => 0) (fun _ _ => 0)).1 p k q' hp e).1
theorem cw_I_10 (h : cw_I q R Y) : Y.1 10 = 0 := by
  have z := ((h (fun _ _ => 0) (fun _ _ => 0)).2.1 10 0 rfl).1
  have z : cw_fp (Y.1 10) 0 = true := z
  unfold cw_fp at z
  rw [Bool.and_eq_true] at z
  exact Nat.eq_of_beq_eq_true z.1
theorem cw_I_V (h : cw_I q R Y) {p k : Nat} (hp : p < Y.2.2) (hq : cw_pr q p = false) (hk : cw_fg (Y.1 p) k = false) : cq_V (cw_pr q) Y.2.2 false (.inr (.inr (R p k))) := fun x e => by
  have e : R p k = some x := Sum.inr.inj (Sum.inr.inj e)
  have z := (h (fun _ _ => 0) (fun _ _ => 0)).1 p k x hp e
  refine ⟨z.1, fun _ => ?_⟩
  cases hx : cw_pr q x with
  | false => rfl
  | true =>
    rcases z.2 hx with w | w | w
    · rw [hq] at w; cases w
    · have w : cw_fg (Y.1 p) k = true := w
      rw [hk] at w
      cases w
    · cases w.1
theorem cw_pr_n {p : Nat} (h : ¬ (q ≤ p ∧ p ≤ q + 13)) : cw_pr q p = false := by
  cases e : cw_pr q p with
  | true =>
    unfold cw_pr at e
    rw [Bool.and_eq_true] at e
    exact absurd ⟨Nat.le_of_ble_eq_true e.1, Nat.le_of_ble_eq_true e.2⟩ h
  | false => rfl
theorem cw_pr_o {p : Nat} (h1 : q ≤ p) (h2 : p ≤ q + 13) : cw_pr q p = true := by
  unfold cw_pr
  rw [Nat.ble_eq_true_of_le h1, Nat.ble_eq_true_of_le h2]
  rfl
theorem cw_pr_i {p : Nat} (h : cw_pr q p = true) : q ≤ p ∧ p ≤ q + 13 := by
  unfold cw_pr at h
  rw [Bool.and_eq_true] at h
  exact ⟨Nat.le_of_ble_eq_true h.1, Nat.le_of_ble_eq_true h.2⟩
theorem cw_I_nw {z x : Nat} {I2 L2 : Nat → Nat → Int} (h : cw_I q R Y) (m : yi_mkd z I L R Y I2 L2 R' Y' x) (hn : ∀ k, R' z k = none) : cw_I q R' Y' := fun A B => by
  obtain ⟨m1, m2, m3, m4, m5, m6⟩ := m
  have h := h (fun _ _ => 0) (fun _ _ => 0)
  have ey : Y'.2.2 = Y.2.2 + 1 := by rw [m6, m1]
  refine ⟨fun p k q' hp e => ?_, fun p k hp => ?_, fun p hp => ?_, ?_⟩
  · have e : R' p k = some q' := e
    have hp : p < Y'.2.2 := hp
    by_cases c : p = z
    · subst c; rw [hn] at e; cases e
    · rw [(m2 p k c).2.2] at e
      have w := h.1 p k q' (show p < Y.2.2 by omega) e
      have w1 : q' < Y.2.2 := w.1
      refine ⟨show q' < Y'.2.2 by omega, fun hq => ?_⟩
      rw [show (A, B, R', Y').2.2.2.1 p = Y.1 p from (m4 p c).1]
      exact w.2 hq
  · have w := h.2.1 p k hp
    have w2 : p < Y.2.2 := w.2
    refine ⟨?_, show p < Y'.2.2 by omega⟩
    rw [show (A, B, R', Y').2.2.2.1 p = Y.1 p from (m4 p (by omega)).1]
    exact w.1
  · have w : p < Y.2.2 := h.2.2.1 p hp
    show p < Y'.2.2
    omega
  · have w : 10 ≤ Y.2.2 := h.2.2.2
    show 10 ≤ Y'.2.2
    omega
theorem cw_I_new {z : Nat} (h : cw_I q R Y) (hz : Y.2.2 = z) (h2 : cw_I q R' Y') (hR : ∀ p k, p < z → R' p k = R p k) (hN : Y'.2.2 = z + 14) : cw_I z R' Y' := fun A B => by
  have w := h2 A B
  refine ⟨fun p k q' hp e => ?_, w.2.1, fun p hp => ?_, w.2.2.2⟩
  · have e : R' p k = some q' := e
    have hp : p < Y'.2.2 := hp
    refine ⟨(w.1 p k q' hp e).1, fun hq => Or.inl ?_⟩
    have hq := cw_pr_i hq
    by_cases c : p < z
    · rw [hR p k c] at e
      have := cw_I_b h (by omega) e
      omega
    · exact cw_pr_o (by omega) (by omega)
  · have hq := cw_pr_i hp
    show p < Y'.2.2
    omega
theorem cw_vt {N p : Nat} (hN : p < N) : cq_V (cw_pr q) N true (.inr (.inr (some p))) := fun x e => by
  have e : some p = some x := Sum.inr.inj (Sum.inr.inj e)
  cases e
  exact ⟨hN, fun h => by cases h⟩
theorem lq_R_h (h : lq_R q ld nm I L R Y) (hc : cw_H q I L R Y I' L' R' Y') : lq_R q ld nm I' L' R' Y' := by
  obtain ⟨⟨h1, h2, h3, h4, h5⟩, h6, h7⟩ := h
  obtain ⟨c1, c2, c3, c4⟩ := hc
  refine ⟨⟨h1, h2, (c2 10 16 (Or.inr rfl)).2.2.trans h3, (c2 10 8 (Or.inr rfl)).2.2.trans h4, Nat.le_trans h5 c4⟩, c1, lq_C_t h7 (fun p k a b => c2 p k (Or.inl (cw_pr_o a b))) (fun p hp => (c3 p hp).2) c4⟩
theorem lq_R_m (h : lq_R q ld nm I L R Y) (f : ∀ p k, q ≤ p → p ≤ q + 13 → I' p k = I p k ∧ L' p k = L p k) : lq_R q ld nm I' L' R Y := ⟨h.1, h.2.1, lq_C_t h.2.2 (fun p k a b => ⟨(f p k a b).1, (f p k a b).2, rfl⟩) (fun _ _ => rfl) (Nat.le_refl _)⟩
/-- a MARK is taken away -/
theorem lq_R_n {i : Nat} (h : lq_R q ld nm I L R Y) (hz : R' 57 i = none) (hR : ∀ p k, ¬ (p = 57 ∧ k = i) → R' p k = R p k) : lq_R q ld nm I L R' Y := by
  obtain ⟨⟨h1, h2, h3, h4, h5⟩, h6, h7⟩ := h
  exact ⟨⟨h1, h2, (hR 10 16 (by omega)).trans h3, (hR 10 8 (by omega)).trans h4, h5⟩, cw_I_w h6 hR (fun q' e => by rw [hz] at e; cases e), lq_C_t h7 (fun p k a b => ⟨rfl, rfl, hR p k (by omega)⟩) (fun _ _ => rfl) (Nat.le_refl _)⟩
end LQ
section YD
variable {Ms : List zi_M} {d : Nat} {M : zi_M} {k : Nat} {Q : yi_R → Prop} {pc n : Nat} {al : List (Nat × yi_V)} {st : List yi_V} {I L : Nat → Nat → Int} {R : Nat → Nat → Option Nat} {Y : (Nat → Nat) × (Nat → Nat) × Nat} {nc ns : Nat}
theorem yi_D_new2 {j ci : Nat} {o : List Nat} (h1 : zi_lk2 pc M.2.2.2.2.1 = some (.new j, n, ci :: o)) (hg : ∀ q I2 L2 R2 Y2 m, yi_mkd q I L R Y I2 L2 R2 Y2 0 → (∀ k, R2 q k = none) → yi_D Ms d M k (pc + n, al, .inr (.inr (some q)) :: st, (I2, L2, R2, Y2), nc + 1, m) Q) : yi_D Ms d M k (pc, al, st, (I, L, R, Y), nc, ns) Q := by
  refine yi_D_l1 (g := (pc + n, al, .inr (.inr (some Y.2.2)) :: st, yi_nw (I, L, R, Y) ci 0, nc + 1, ns + (zi_Fs.getD ci ("", [])).2.length)) (c := Nat.ble (ci + 1) 12) h1 rfl (fun call => rfl) (fun _ => hg _ _ _ _ _ _ (yi_mkd_i ci 0) (fun k => if_pos rfl))
theorem yi_D_aas2 {o : List Nat} {z : Nat} {w : Option Nat} {x : Int} (h1 : zi_lk2 pc M.2.2.2.2.1 = some (.aastore, n, o)) (hg : ∀ R2 : Nat → Nat → Option Nat, R2 z x.toNat = w → (∀ p' k', ¬ (p' = z ∧ k' = x.toNat) → R2 p' k' = R p' k') → yi_D Ms d M k (pc + n, al, st, (I, L, R2, Y), nc, ns) Q) : yi_D Ms d M k (pc, al, .inr (.inr w) :: .inl x :: .inr (.inr (some z)) :: st, (I, L, R, Y), nc, ns) Q :=
  yi_D_l1 (g := (pc + n, al, st, yi_uR (I, L, R, Y) z x.toNat w, nc, ns)) (c := Nat.ble 10 z && Nat.ble 24 (Y.1 z) && Nat.ble (Y.1 z) 26 && decide (0 ≤ x) && decide (x < Y.2.1 z) && yi_nz (I, L, R, Y) (Y.1 z) w) h1 rfl (fun _ => rfl) (fun _ => hg _ (if_pos ⟨rfl, rfl⟩) (fun p' k' h => if_neg h))
end YD
theorem p_initLand2 {d : Nat} {I L : Nat → Nat → Int} {R : Nat → Nat → Option Nat} {Y : (Nat → Nat) × (Nat → Nat) × Nat} {q : Nat} (hq : 20 ≤ q) (hY : Y.2.2 = q + 1) (h0 : ∀ k, I q k = 0) : yi_P zi_Ms d 219 [.inr (.inr (some q))] (I, L, R, Y) (fun r => ∃ I' L' R' Y' n m, r = (none, (I', L', R', Y'), n, m) ∧ cs_N0 I' L' R' Y' q ∧ (∀ p k, p < q → I' p k = I p k) ∧ (∀ p k, p < q → L' p k = L p k) ∧ (∀ p k, p < q → R' p k = R p k) ∧ Y'.2.2 = q + 14 ∧ (∀ p, p < q → Y'.2.1 p = Y.2.1 p ∧ Y'.1 p = Y.1 p)) := by
  refine yi_P_of (M := zi_m219) rfl (fun d k => ?_)
  show yi_D zi_Ms d zi_m219 k (0, [(0, .inr (.inr (some q)))], [], (I, L, R, Y), 0, 0) _
  refine yi_D_run 4 (6, [(0, .inr (.inr (some q)))], [.inl 4, .inr (.inr (some q))], (I, L, R, Y), 0, 0) (fun _ => rfl) ?_
  refine yi_D_nwq rfl (fun q1 I2 L3 R4 Y5 m6 mk7 => ?_)
  obtain ⟨k8, k9, k10, k11, k12, k13⟩ := mk7
  refine yi_D_pr rfl (fun R14 pr15 pr16 => ?_)
  refine yi_D_run 2 (13, [(0, .inr (.inr (some q)))], [.inl 4, .inr (.inr (some q))], (I2, L3, R14, Y5), (0 + 1), m6) (fun _ => rfl) ?_
  refine yi_D_nwq rfl (fun q17 I18 L19 R20 Y21 m22 mk23 => ?_)
  obtain ⟨k24, k25, k26, k27, k28, k29⟩ := mk23
  refine yi_D_pr rfl (fun R30 pr31 pr32 => ?_)
  refine yi_D_run 2 (20, [(0, .inr (.inr (some q)))], [.inl 5, .inr (.inr (some q))], (I18, L19, R30, Y21), ((0 + 1) + 1), m22) (fun _ => rfl) ?_
  refine yi_D_nwq rfl (fun q33 I34 L35 R36 Y37 m38 mk39 => ?_)
  obtain ⟨k40, k41, k42, k43, k44, k45⟩ := mk39
  refine yi_D_pr rfl (fun R46 pr47 pr48 => ?_)
  refine yi_D_run 2 (27, [(0, .inr (.inr (some q)))], [.inl 4, .inr (.inr (some q))], (I34, L35, R46, Y37), (((0 + 1) + 1) + 1), m38) (fun _ => rfl) ?_
  refine yi_D_nwq rfl (fun q49 I50 L51 R52 Y53 m54 mk55 => ?_)
  obtain ⟨k56, k57, k58, k59, k60, k61⟩ := mk55
  refine yi_D_pr rfl (fun R62 pr63 pr64 => ?_)
  refine yi_D_run 2 (34, [(0, .inr (.inr (some q)))], [.inl 5, .inr (.inr (some q))], (I50, L51, R62, Y53), ((((0 + 1) + 1) + 1) + 1), m54) (fun _ => rfl) ?_
  refine yi_D_nwq rfl (fun q65 I66 L67 R68 Y69 m70 mk71 => ?_)
  obtain ⟨k72, k73, k74, k75, k76, k77⟩ := mk71
  refine yi_D_pr rfl (fun R78 pr79 pr80 => ?_)
  refine yi_D_run 2 (41, [(0, .inr (.inr (some q)))], [.inl 5, .inr (.inr (some q))], (I66, L67, R78, Y69), (((((0 + 1) + 1) + 1) + 1) + 1), m70) (fun _ => rfl) ?_
  refine yi_D_nwq rfl (fun q81 I82 L83 R84 Y85 m86 mk87 => ?_)
  obtain ⟨k88, k89, k90, k91, k92, k93⟩ := mk87
  refine yi_D_pr rfl (fun R94 pr95 pr96 => ?_)
  refine yi_D_run 2 (49, [(0, .inr (.inr (some q)))], [.inl 6, .inr (.inr (some q))], (I82, L83, R94, Y85), ((((((0 + 1) + 1) + 1) + 1) + 1) + 1), m86) (fun _ => rfl) ?_
  refine yi_D_nwq rfl (fun q97 I98 L99 R100 Y101 m102 mk103 => ?_)
  obtain ⟨k104, k105, k106, k107, k108, k109⟩ := mk103
  refine yi_D_pr rfl (fun R110 pr111 pr112 => ?_)
  refine yi_D_run 2 (57, [(0, .inr (.inr (some q)))], [.inl 6, .inr (.inr (some q))], (I98, L99, R110, Y101), (((((((0 + 1) + 1) + 1) + 1) + 1) + 1) + 1), m102) (fun _ => rfl) ?_
  refine yi_D_nwq rfl (fun q113 I114 L115 R116 Y117 m118 mk119 => ?_)
  obtain ⟨k120, k121, k122, k123, k124, k125⟩ := mk119
  refine yi_D_pr rfl (fun R126 pr127 pr128 => ?_)
  refine yi_D_run 2 (64, [(0, .inr (.inr (some q)))], [.inl 4, .inr (.inr (some q))], (I114, L115, R126, Y117), ((((((((0 + 1) + 1) + 1) + 1) + 1) + 1) + 1) + 1), m118) (fun _ => rfl) ?_
  refine yi_D_nwq rfl (fun q129 I130 L131 R132 Y133 m134 mk135 => ?_)
  obtain ⟨k136, k137, k138, k139, k140, k141⟩ := mk135
  refine yi_D_pr rfl (fun R142 pr143 pr144 => ?_)
  refine yi_D_run 2 (71, [(0, .inr (.inr (some q)))], [.inl 4, .inr (.inr (some q))], (I130, L131, R142, Y133), (((((((((0 + 1) + 1) + 1) + 1) + 1) + 1) + 1) + 1) + 1), m134) (fun _ => rfl) ?_
  refine yi_D_nwq rfl (fun q145 I146 L147 R148 Y149 m150 mk151 => ?_)
  obtain ⟨k152, k153, k154, k155, k156, k157⟩ := mk151
  refine yi_D_pr rfl (fun R158 pr159 pr160 => ?_)
  refine yi_D_run 2 (79, [(0, .inr (.inr (some q)))], [.inl 6, .inr (.inr (some q))], (I146, L147, R158, Y149), ((((((((((0 + 1) + 1) + 1) + 1) + 1) + 1) + 1) + 1) + 1) + 1), m150) (fun _ => rfl) ?_
  refine yi_D_nwq rfl (fun q161 I162 L163 R164 Y165 m166 mk167 => ?_)
  obtain ⟨k168, k169, k170, k171, k172, k173⟩ := mk167
  refine yi_D_pr rfl (fun R174 pr175 pr176 => ?_)
  refine yi_D_run 2 (87, [(0, .inr (.inr (some q)))], [.inl 6, .inr (.inr (some q))], (I162, L163, R174, Y165), (((((((((((0 + 1) + 1) + 1) + 1) + 1) + 1) + 1) + 1) + 1) + 1) + 1), m166) (fun _ => rfl) ?_
  refine yi_D_nwq rfl (fun q177 I178 L179 R180 Y181 m182 mk183 => ?_)
  obtain ⟨k184, k185, k186, k187, k188, k189⟩ := mk183
  refine yi_D_pr rfl (fun R190 pr191 pr192 => ?_)
  refine yi_D_run 2 (94, [(0, .inr (.inr (some q)))], [.inl 1, .inr (.inr (some q))], (I178, L179, R190, Y181), ((((((((((((0 + 1) + 1) + 1) + 1) + 1) + 1) + 1) + 1) + 1) + 1) + 1) + 1), m182) (fun _ => rfl) ?_
  refine yi_D_nwq rfl (fun q193 I194 L195 R196 Y197 m198 mk199 => ?_)
  obtain ⟨k200, k201, k202, k203, k204, k205⟩ := mk199
  refine yi_D_run 3 (101, [(0, .inr (.inr (some q)))], [.inl 258, .inl 0, .inr (.inr (some q193)), .inr (.inr (some q193)), .inr (.inr (some q))], (I194, L195, R196, Y197), (((((((((((((0 + 1) + 1) + 1) + 1) + 1) + 1) + 1) + 1) + 1) + 1) + 1) + 1) + 1), m198) (fun _ => rfl) ?_
  refine yi_D_is rfl (fun _ _ => ?_)
  show yi_D zi_Ms d zi_m219 k (102, [(0, .inr (.inr (some q)))], [.inr (.inr (some q193)), .inr (.inr (some q))], ((yi_u I194 q193 0 258), L195, R196, Y197), (((((((((((((0 + 1) + 1) + 1) + 1) + 1) + 1) + 1) + 1) + 1) + 1) + 1) + 1) + 1), m198) _
  generalize w207 : yi_u I194 q193 0 258 = I206
  refine yi_D_pr rfl (fun R208 pr209 pr210 => ?_)
  refine yi_D_run 2 (107, [(0, .inr (.inr (some q)))], [.inl 1, .inr (.inr (some q))], (I206, L195, R208, Y197), (((((((((((((0 + 1) + 1) + 1) + 1) + 1) + 1) + 1) + 1) + 1) + 1) + 1) + 1) + 1), m198) (fun _ => rfl) ?_
  refine yi_D_pi rfl (fun _ => ?_)
  generalize w212 : yi_u I206 q 14 1 = I211
  refine yi_D_retv rfl ?_
  have hq0 : q1 = q + 1 := by omega
  have hq1 : q17 = q + 2 := by omega
  have hq2 : q33 = q + 3 := by omega
  have hq3 : q49 = q + 4 := by omega
  have hq4 : q65 = q + 5 := by omega
  have hq5 : q81 = q + 6 := by omega
  have hq6 : q97 = q + 7 := by omega
  have hq7 : q113 = q + 8 := by omega
  have hq8 : q129 = q + 9 := by omega
  have hq9 : q145 = q + 10 := by omega
  have hq10 : q161 = q + 11 := by omega
  have hq11 : q177 = q + 12 := by omega
  have hq12 : q193 = q + 13 := by omega
  have hr0 : R208 q 0 = some (q + 1 + 0) := by rw [pr210 q 0 (by omega), (k201 q 0 (by omega)).2.2, pr192 q 0 (by omega), (k185 q 0 (by omega)).2.2, pr176 q 0 (by omega), (k169 q 0 (by omega)).2.2, pr160 q 0 (by omega), (k153 q 0 (by omega)).2.2, pr144 q 0 (by omega), (k137 q 0 (by omega)).2.2, pr128 q 0 (by omega), (k121 q 0 (by omega)).2.2, pr112 q 0 (by omega), (k105 q 0 (by omega)).2.2, pr96 q 0 (by omega), (k89 q 0 (by omega)).2.2, pr80 q 0 (by omega), (k73 q 0 (by omega)).2.2, pr64 q 0 (by omega), (k57 q 0 (by omega)).2.2, pr48 q 0 (by omega), (k41 q 0 (by omega)).2.2, pr32 q 0 (by omega), (k25 q 0 (by omega)).2.2, pr15]; exact congrArg some (by omega)
  have hr1 : R208 q 1 = some (q + 1 + 1) := by rw [pr210 q 1 (by omega), (k201 q 1 (by omega)).2.2, pr192 q 1 (by omega), (k185 q 1 (by omega)).2.2, pr176 q 1 (by omega), (k169 q 1 (by omega)).2.2, pr160 q 1 (by omega), (k153 q 1 (by omega)).2.2, pr144 q 1 (by omega), (k137 q 1 (by omega)).2.2, pr128 q 1 (by omega), (k121 q 1 (by omega)).2.2, pr112 q 1 (by omega), (k105 q 1 (by omega)).2.2, pr96 q 1 (by omega), (k89 q 1 (by omega)).2.2, pr80 q 1 (by omega), (k73 q 1 (by omega)).2.2, pr64 q 1 (by omega), (k57 q 1 (by omega)).2.2, pr48 q 1 (by omega), (k41 q 1 (by omega)).2.2, pr31]; exact congrArg some (by omega)
  have hr2 : R208 q 2 = some (q + 1 + 2) := by rw [pr210 q 2 (by omega), (k201 q 2 (by omega)).2.2, pr192 q 2 (by omega), (k185 q 2 (by omega)).2.2, pr176 q 2 (by omega), (k169 q 2 (by omega)).2.2, pr160 q 2 (by omega), (k153 q 2 (by omega)).2.2, pr144 q 2 (by omega), (k137 q 2 (by omega)).2.2, pr128 q 2 (by omega), (k121 q 2 (by omega)).2.2, pr112 q 2 (by omega), (k105 q 2 (by omega)).2.2, pr96 q 2 (by omega), (k89 q 2 (by omega)).2.2, pr80 q 2 (by omega), (k73 q 2 (by omega)).2.2, pr64 q 2 (by omega), (k57 q 2 (by omega)).2.2, pr47]; exact congrArg some (by omega)
  have hr3 : R208 q 3 = some (q + 1 + 3) := by rw [pr210 q 3 (by omega), (k201 q 3 (by omega)).2.2, pr192 q 3 (by omega), (k185 q 3 (by omega)).2.2, pr176 q 3 (by omega), (k169 q 3 (by omega)).2.2, pr160 q 3 (by omega), (k153 q 3 (by omega)).2.2, pr144 q 3 (by omega), (k137 q 3 (by omega)).2.2, pr128 q 3 (by omega), (k121 q 3 (by omega)).2.2, pr112 q 3 (by omega), (k105 q 3 (by omega)).2.2, pr96 q 3 (by omega), (k89 q 3 (by omega)).2.2, pr80 q 3 (by omega), (k73 q 3 (by omega)).2.2, pr63]; exact congrArg some (by omega)
  have hr4 : R208 q 4 = some (q + 1 + 4) := by rw [pr210 q 4 (by omega), (k201 q 4 (by omega)).2.2, pr192 q 4 (by omega), (k185 q 4 (by omega)).2.2, pr176 q 4 (by omega), (k169 q 4 (by omega)).2.2, pr160 q 4 (by omega), (k153 q 4 (by omega)).2.2, pr144 q 4 (by omega), (k137 q 4 (by omega)).2.2, pr128 q 4 (by omega), (k121 q 4 (by omega)).2.2, pr112 q 4 (by omega), (k105 q 4 (by omega)).2.2, pr96 q 4 (by omega), (k89 q 4 (by omega)).2.2, pr79]; exact congrArg some (by omega)
  have hr5 : R208 q 5 = some (q + 1 + 5) := by rw [pr210 q 5 (by omega), (k201 q 5 (by omega)).2.2, pr192 q 5 (by omega), (k185 q 5 (by omega)).2.2, pr176 q 5 (by omega), (k169 q 5 (by omega)).2.2, pr160 q 5 (by omega), (k153 q 5 (by omega)).2.2, pr144 q 5 (by omega), (k137 q 5 (by omega)).2.2, pr128 q 5 (by omega), (k121 q 5 (by omega)).2.2, pr112 q 5 (by omega), (k105 q 5 (by omega)).2.2, pr95]; exact congrArg some (by omega)
  have hr6 : R208 q 6 = some (q + 1 + 6) := by rw [pr210 q 6 (by omega), (k201 q 6 (by omega)).2.2, pr192 q 6 (by omega), (k185 q 6 (by omega)).2.2, pr176 q 6 (by omega), (k169 q 6 (by omega)).2.2, pr160 q 6 (by omega), (k153 q 6 (by omega)).2.2, pr144 q 6 (by omega), (k137 q 6 (by omega)).2.2, pr128 q 6 (by omega), (k121 q 6 (by omega)).2.2, pr111]; exact congrArg some (by omega)
  have hr7 : R208 q 7 = some (q + 1 + 7) := by rw [pr210 q 7 (by omega), (k201 q 7 (by omega)).2.2, pr192 q 7 (by omega), (k185 q 7 (by omega)).2.2, pr176 q 7 (by omega), (k169 q 7 (by omega)).2.2, pr160 q 7 (by omega), (k153 q 7 (by omega)).2.2, pr144 q 7 (by omega), (k137 q 7 (by omega)).2.2, pr127]; exact congrArg some (by omega)
  have hr8 : R208 q 8 = some (q + 1 + 8) := by rw [pr210 q 8 (by omega), (k201 q 8 (by omega)).2.2, pr192 q 8 (by omega), (k185 q 8 (by omega)).2.2, pr176 q 8 (by omega), (k169 q 8 (by omega)).2.2, pr160 q 8 (by omega), (k153 q 8 (by omega)).2.2, pr143]; exact congrArg some (by omega)
  have hr9 : R208 q 9 = some (q + 1 + 9) := by rw [pr210 q 9 (by omega), (k201 q 9 (by omega)).2.2, pr192 q 9 (by omega), (k185 q 9 (by omega)).2.2, pr176 q 9 (by omega), (k169 q 9 (by omega)).2.2, pr159]; exact congrArg some (by omega)
  have hr10 : R208 q 10 = some (q + 1 + 10) := by rw [pr210 q 10 (by omega), (k201 q 10 (by omega)).2.2, pr192 q 10 (by omega), (k185 q 10 (by omega)).2.2, pr175]; exact congrArg some (by omega)
  have hr11 : R208 q 11 = some (q + 1 + 11) := by rw [pr210 q 11 (by omega), (k201 q 11 (by omega)).2.2, pr191]; exact congrArg some (by omega)
  refine ⟨_, _, _, _, _, _, rfl, ⟨⟨hq, fun j hj => ?_, by rw [← hq0, (k203 q1 (by omega)).2, (k187 q1 (by omega)).2, (k171 q1 (by omega)).2, (k155 q1 (by omega)).2, (k139 q1 (by omega)).2, (k123 q1 (by omega)).2, (k107 q1 (by omega)).2, (k91 q1 (by omega)).2, (k75 q1 (by omega)).2, (k59 q1 (by omega)).2, (k43 q1 (by omega)).2, (k27 q1 (by omega)).2, k12]; rfl, by rw [← hq1, (k203 q17 (by omega)).2, (k187 q17 (by omega)).2, (k171 q17 (by omega)).2, (k155 q17 (by omega)).2, (k139 q17 (by omega)).2, (k123 q17 (by omega)).2, (k107 q17 (by omega)).2, (k91 q17 (by omega)).2, (k75 q17 (by omega)).2, (k59 q17 (by omega)).2, (k43 q17 (by omega)).2, k28]; rfl, by rw [← hq2, (k203 q33 (by omega)).2, (k187 q33 (by omega)).2, (k171 q33 (by omega)).2, (k155 q33 (by omega)).2, (k139 q33 (by omega)).2, (k123 q33 (by omega)).2, (k107 q33 (by omega)).2, (k91 q33 (by omega)).2, (k75 q33 (by omega)).2, (k59 q33 (by omega)).2, k44]; rfl, by omega⟩, ?_, ?_, ?_, ?_, ?_, ?_, ?_⟩, fun p k hp => by rw [← w212, yi_u_ne _ _ (by omega), ← w207, yi_u_ne _ _ (by omega), (fun p k hp => (k201 p k hp).1) p k (by omega), (fun p k hp => (k185 p k hp).1) p k (by omega), (fun p k hp => (k169 p k hp).1) p k (by omega), (fun p k hp => (k153 p k hp).1) p k (by omega), (fun p k hp => (k137 p k hp).1) p k (by omega), (fun p k hp => (k121 p k hp).1) p k (by omega), (fun p k hp => (k105 p k hp).1) p k (by omega), (fun p k hp => (k89 p k hp).1) p k (by omega), (fun p k hp => (k73 p k hp).1) p k (by omega), (fun p k hp => (k57 p k hp).1) p k (by omega), (fun p k hp => (k41 p k hp).1) p k (by omega), (fun p k hp => (k25 p k hp).1) p k (by omega), (fun p k hp => (k9 p k hp).1) p k (by omega)], fun p k hp => by rw [(fun p k hp => (k201 p k hp).2.1) p k (by omega), (fun p k hp => (k185 p k hp).2.1) p k (by omega), (fun p k hp => (k169 p k hp).2.1) p k (by omega), (fun p k hp => (k153 p k hp).2.1) p k (by omega), (fun p k hp => (k137 p k hp).2.1) p k (by omega), (fun p k hp => (k121 p k hp).2.1) p k (by omega), (fun p k hp => (k105 p k hp).2.1) p k (by omega), (fun p k hp => (k89 p k hp).2.1) p k (by omega), (fun p k hp => (k73 p k hp).2.1) p k (by omega), (fun p k hp => (k57 p k hp).2.1) p k (by omega), (fun p k hp => (k41 p k hp).2.1) p k (by omega), (fun p k hp => (k25 p k hp).2.1) p k (by omega), (fun p k hp => (k9 p k hp).2.1) p k (by omega)], fun p k hp => by rw [pr210 p k (by omega), (k201 p k (by omega)).2.2, pr192 p k (by omega), (k185 p k (by omega)).2.2, pr176 p k (by omega), (k169 p k (by omega)).2.2, pr160 p k (by omega), (k153 p k (by omega)).2.2, pr144 p k (by omega), (k137 p k (by omega)).2.2, pr128 p k (by omega), (k121 p k (by omega)).2.2, pr112 p k (by omega), (k105 p k (by omega)).2.2, pr96 p k (by omega), (k89 p k (by omega)).2.2, pr80 p k (by omega), (k73 p k (by omega)).2.2, pr64 p k (by omega), (k57 p k (by omega)).2.2, pr48 p k (by omega), (k41 p k (by omega)).2.2, pr32 p k (by omega), (k25 p k (by omega)).2.2, pr16 p k (by omega), (k9 p k (by omega)).2.2], by omega, fun p hp => ⟨by rw [(k203 p (by omega)).2, (k187 p (by omega)).2, (k171 p (by omega)).2, (k155 p (by omega)).2, (k139 p (by omega)).2, (k123 p (by omega)).2, (k107 p (by omega)).2, (k91 p (by omega)).2, (k75 p (by omega)).2, (k59 p (by omega)).2, (k43 p (by omega)).2, (k27 p (by omega)).2, (k11 p (by omega)).2], by rw [(k203 p (by omega)).1, (k187 p (by omega)).1, (k171 p (by omega)).1, (k155 p (by omega)).1, (k139 p (by omega)).1, (k123 p (by omega)).1, (k107 p (by omega)).1, (k91 p (by omega)).1, (k75 p (by omega)).1, (k59 p (by omega)).1, (k43 p (by omega)).1, (k27 p (by omega)).1, (k11 p (by omega)).1]⟩⟩
  · obtain rfl | rfl | rfl | rfl | rfl | rfl | rfl | rfl | rfl | rfl | rfl | rfl : j = 0 ∨ j = 1 ∨ j = 2 ∨ j = 3 ∨ j = 4 ∨ j = 5 ∨ j = 6 ∨ j = 7 ∨ j = 8 ∨ j = 9 ∨ j = 10 ∨ j = 11 := by omega
    · exact hr0
    · exact hr1
    · exact hr2
    · exact hr3
    · exact hr4
    · exact hr5
    · exact hr6
    · exact hr7
    · exact hr8
    · exact hr9
    · exact hr10
    · exact hr11
  · rw [← w212, yi_u_ne _ _ (by omega), ← w207, yi_u_ne _ _ (by omega), (fun p k hp => (k201 p k hp).1) q 13 (by omega), (fun p k hp => (k185 p k hp).1) q 13 (by omega), (fun p k hp => (k169 p k hp).1) q 13 (by omega), (fun p k hp => (k153 p k hp).1) q 13 (by omega), (fun p k hp => (k137 p k hp).1) q 13 (by omega), (fun p k hp => (k121 p k hp).1) q 13 (by omega), (fun p k hp => (k105 p k hp).1) q 13 (by omega), (fun p k hp => (k89 p k hp).1) q 13 (by omega), (fun p k hp => (k73 p k hp).1) q 13 (by omega), (fun p k hp => (k57 p k hp).1) q 13 (by omega), (fun p k hp => (k41 p k hp).1) q 13 (by omega), (fun p k hp => (k25 p k hp).1) q 13 (by omega), (fun p k hp => (k9 p k hp).1) q 13 (by omega)]; exact h0 13
  · rw [← w212, yi_u_eq]
  · rw [← w212, yi_u_ne _ _ (by omega), ← w207, yi_u_ne _ _ (by omega), (fun p k hp => (k201 p k hp).1) q 15 (by omega), (fun p k hp => (k185 p k hp).1) q 15 (by omega), (fun p k hp => (k169 p k hp).1) q 15 (by omega), (fun p k hp => (k153 p k hp).1) q 15 (by omega), (fun p k hp => (k137 p k hp).1) q 15 (by omega), (fun p k hp => (k121 p k hp).1) q 15 (by omega), (fun p k hp => (k105 p k hp).1) q 15 (by omega), (fun p k hp => (k89 p k hp).1) q 15 (by omega), (fun p k hp => (k73 p k hp).1) q 15 (by omega), (fun p k hp => (k57 p k hp).1) q 15 (by omega), (fun p k hp => (k41 p k hp).1) q 15 (by omega), (fun p k hp => (k25 p k hp).1) q 15 (by omega), (fun p k hp => (k9 p k hp).1) q 15 (by omega)]; exact h0 15
  · rw [← w212, yi_u_ne _ _ (by omega), ← w207, yi_u_ne _ _ (by omega), (fun p k hp => (k201 p k hp).1) q 16 (by omega), (fun p k hp => (k185 p k hp).1) q 16 (by omega), (fun p k hp => (k169 p k hp).1) q 16 (by omega), (fun p k hp => (k153 p k hp).1) q 16 (by omega), (fun p k hp => (k137 p k hp).1) q 16 (by omega), (fun p k hp => (k121 p k hp).1) q 16 (by omega), (fun p k hp => (k105 p k hp).1) q 16 (by omega), (fun p k hp => (k89 p k hp).1) q 16 (by omega), (fun p k hp => (k73 p k hp).1) q 16 (by omega), (fun p k hp => (k57 p k hp).1) q 16 (by omega), (fun p k hp => (k41 p k hp).1) q 16 (by omega), (fun p k hp => (k25 p k hp).1) q 16 (by omega), (fun p k hp => (k9 p k hp).1) q 16 (by omega)]; exact h0 16
  · rw [← w212, yi_u_ne _ _ (by omega), ← w207, yi_u_ne _ _ (by omega), (fun p k hp => (k201 p k hp).1) q 17 (by omega), (fun p k hp => (k185 p k hp).1) q 17 (by omega), (fun p k hp => (k169 p k hp).1) q 17 (by omega), (fun p k hp => (k153 p k hp).1) q 17 (by omega), (fun p k hp => (k137 p k hp).1) q 17 (by omega), (fun p k hp => (k121 p k hp).1) q 17 (by omega), (fun p k hp => (k105 p k hp).1) q 17 (by omega), (fun p k hp => (k89 p k hp).1) q 17 (by omega), (fun p k hp => (k73 p k hp).1) q 17 (by omega), (fun p k hp => (k57 p k hp).1) q 17 (by omega), (fun p k hp => (k41 p k hp).1) q 17 (by omega), (fun p k hp => (k25 p k hp).1) q 17 (by omega), (fun p k hp => (k9 p k hp).1) q 17 (by omega)]; exact h0 17
  · rw [← w212, yi_u_ne _ _ (by omega), ← w207, yi_u_ne _ _ (by omega), (fun p k hp => (k201 p k hp).1) q 18 (by omega), (fun p k hp => (k185 p k hp).1) q 18 (by omega), (fun p k hp => (k169 p k hp).1) q 18 (by omega), (fun p k hp => (k153 p k hp).1) q 18 (by omega), (fun p k hp => (k137 p k hp).1) q 18 (by omega), (fun p k hp => (k121 p k hp).1) q 18 (by omega), (fun p k hp => (k105 p k hp).1) q 18 (by omega), (fun p k hp => (k89 p k hp).1) q 18 (by omega), (fun p k hp => (k73 p k hp).1) q 18 (by omega), (fun p k hp => (k57 p k hp).1) q 18 (by omega), (fun p k hp => (k41 p k hp).1) q 18 (by omega), (fun p k hp => (k25 p k hp).1) q 18 (by omega), (fun p k hp => (k9 p k hp).1) q 18 (by omega)]; exact h0 18
  · rw [← w212, yi_u_ne _ _ (by omega), ← w207, yi_u_ne _ _ (by omega), (fun p k hp => (k201 p k hp).1) q 19 (by omega), (fun p k hp => (k185 p k hp).1) q 19 (by omega), (fun p k hp => (k169 p k hp).1) q 19 (by omega), (fun p k hp => (k153 p k hp).1) q 19 (by omega), (fun p k hp => (k137 p k hp).1) q 19 (by omega), (fun p k hp => (k121 p k hp).1) q 19 (by omega), (fun p k hp => (k105 p k hp).1) q 19 (by omega), (fun p k hp => (k89 p k hp).1) q 19 (by omega), (fun p k hp => (k73 p k hp).1) q 19 (by omega), (fun p k hp => (k57 p k hp).1) q 19 (by omega), (fun p k hp => (k41 p k hp).1) q 19 (by omega), (fun p k hp => (k25 p k hp).1) q 19 (by omega), (fun p k hp => (k9 p k hp).1) q 19 (by omega)]; exact h0 19
theorem p_land2 {d : Nat} {I L : Nat → Nat → Int} {R : Nat → Nat → Option Nat} {Y : (Nat → Nat) × (Nat → Nat) × Nat} {s : Nat → Int} {n q0 : Nat} {ld0 : Nat → Int} {nm0 : Int → Int} (hL : lq_R q0 ld0 nm0 I L R Y) (hX : cs_S R Y ∧ True) (hR : R 10 0 = some 11 ∧ R 10 1 = some 12) (hY : 110 ≤ Y.2.2) (hn : n ≤ 1000) (h5 : I 12 5 = (n : Int)) (hs : ∀ i, i < n → I 13 i = s i) (hb : ∀ i, i < n → 0 ≤ s i ∧ s i ≤ 127) (hk : ∀ j : Nat, j < 29 → sp_WR (L 17 j) (sp_W37.getD j 0)) (hw18 : L 18 0 = 72564293 ∧ L 18 1 = 1265842 ∧ L 18 2 = 671108) : yi_P zi_Ms d 162 [.inr (.inr (some 10))] (I, L, R, Y) (fun r => ∃ f I' L' R' Y' n' m', r = (some (.inl f), (I', L', R', Y'), n', m') ∧ sp_R (tk_Ks s n) (tk_Ps s n) (tk_Vs s n) (0, 0, 0, [], sp_ld0, sp_nm0, []) (.inr f) ∧ (¬ f = 0 → lq_R q0 ld0 nm0 I' L' R' Y') ∧ (f = 0 → ∃ q a ld nm cs, sp_R (tk_Ks s n) (tk_Ps s n) (tk_Vs s n) (0, 0, 0, [], sp_ld0, sp_nm0, []) (.inl (2, a, 0, [], ld, nm, cs)) ∧ tk_Ks s n a = 0 ∧ lq_R q ld nm I' L' R' Y')) := by
  refine yi_P_of (M := zi_m162) rfl (fun d k => ?_)
  show yi_D zi_Ms d zi_m162 k (0, [(0, .inr (.inr (some 10)))], [], (I, L, R, Y), 0, 0) _
  refine yi_D_run 1 (1, [(0, .inr (.inr (some 10)))], [.inr (.inr (some 10))], (I, L, R, Y), 0, 0) (fun _ => rfl) ?_
  refine yi_D_gr (v := some 12) rfl rfl rfl hR.2 (fun _ => ?_)
  refine yi_D_callv rfl (p_cut hX hn h5 hs hb hk hw18) ?_
  rintro _ ⟨I1, L2, rfl, hT3, h4, fI5, fL6⟩
  show yi_D zi_Ms d zi_m162 k (7, [(0, .inr (.inr (some 10)))], [], (I1, L2, R, Y), 0, 0) _
  refine yi_D_new2 rfl (fun q7 I8 L9 R10 Y11 m12 mk13 hn13 => ?_)
  have hI0 := hL.2.1
  have hI11 := cw_I_nw hI0 mk13 hn13
  obtain ⟨k14, k15, k16, k17, k18, k19⟩ := mk13
  refine yi_D_run 1 (11, [(0, .inr (.inr (some 10)))], [.inr (.inr (some q7)), .inr (.inr (some q7))], (I8, L9, R10, Y11), (0 + 1), m12) (fun _ => rfl) ?_
  refine yi_D_callp rfl rfl (yi_P_a (p_initLand2 (by omega) k19 k16) (cv_P (q := q0) (by have := hL.1.1; omega) hI11 (by decide +kernel) (cw_vc (cw_vt (by omega)) cw_v0))) ?_
  rintro _ ⟨⟨I20, L21, R22, Y23, n24, m25, rfl, hN26, f27, f28, f29, f30, f31⟩, hv26⟩
  have hI23 : cw_I q0 R22 Y23 := hv26.1
  have hJ23 : cw_I q7 R22 Y23 := cw_I_new hI0 k14.symm hI23 (fun p k hp => by rw [f29 p k hp, (k15 p k (by omega)).2.2]) f30
  show yi_D zi_Ms d zi_m162 k (14, [(0, .inr (.inr (some 10)))], [.inr (.inr (some q7))], (I20, L21, R22, Y23), ((0 + 1) + n24), (m12 + m25)) _
  refine yi_D_run 2 (16, [(1, .inr (.inr (some q7))), (0, .inr (.inr (some 10)))], [.inr (.inr (some 10))], (I20, L21, R22, Y23), ((0 + 1) + n24), (m12 + m25)) (fun _ => rfl) ?_
  refine yi_D_gr (v := some 11) rfl rfl rfl (by rw [f29 10 0 (by omega), (k15 10 0 (by omega)).2.2]; exact hR.1) (fun _ => ?_)
  refine yi_D_run 1 (20, [(1, .inr (.inr (some q7))), (0, .inr (.inr (some 10)))], [.inr (.inr (some q7)), .inr (.inr (some 11))], (I20, L21, R22, Y23), ((0 + 1) + n24), (m12 + m25)) (fun _ => rfl) ?_
  have hS3 : cs_S R22 Y23 := by
    have r : ∀ p k, p < 20 → R22 p k = R p k := fun p k hp => by rw [f29 p k (by omega), (k15 p k (by omega)).2.2]
    have y : ∀ p, p < 20 → Y23.2.1 p = Y.2.1 p := fun p hp => by rw [(f31 p (by omega)).1, (k17 p (by omega)).2]
    unfold cs_S
    rw [r 11 0 (by omega), r 11 1 (by omega), r 11 2 (by omega), r 12 0 (by omega), r 12 1 (by omega), r 12 2 (by omega), r 12 3 (by omega), r 12 4 (by omega), y 13 (by omega), y 14 (by omega), y 15 (by omega), y 16 (by omega), y 17 (by omega), y 18 (by omega), y 19 (by omega)]
    exact hX.1
  have hT3 : cs_T I20 L21 (tk_Ks s n) (tk_Ps s n) (tk_Vs s n) (tk_te s n) := by
    have e1 : ∀ p k, p < 20 → I20 p k = I1 p k := fun p k hp => by rw [f27 p k (by omega), (k15 p k (by omega)).1]
    have e2 : ∀ p k, p < 20 → L21 p k = L2 p k := fun p k hp => by rw [f28 p k (by omega), (k15 p k (by omega)).2.1]
    obtain ⟨a1, a2, a3, a4⟩ := hT3
    refine ⟨a1, by rw [e1 12 6 (by omega)]; exact a2, fun i hi => ?_, by rw [e2 18 0 (by omega), e2 18 1 (by omega), e2 18 2 (by omega)]; exact a4⟩
    rw [e1 14 i (by omega), e1 15 i (by omega), e2 16 i (by omega)]
    exact a3 i hi
  refine yi_D_callv rfl (yi_P_a (yi_P_a (p_readLand ⟨hS3, hT3⟩ hN26) (cv_P (q := q0) (by have := hL.1.1; omega) hI23 (by decide +kernel) (cw_vc (cw_v10 (by have := hL.1.1; omega) (by omega)) (cw_vc (cw_vt (by omega)) cw_v0)))) (cv_P (q := q7) (by omega) hJ23 (by decide +kernel) (cw_vc (cw_v10 (by omega) (by omega)) (cw_vc (cw_vt (by omega)) cw_v0)))) ?_
  rintro _ ⟨⟨⟨I32, L33, R34, Y35, n36, m37, f38, rfl, hB39, hsp40, hz41⟩, hv38⟩, hv39⟩
  have hI35 : cw_I q0 R34 Y35 := hv38.1
  have hJ35 : cw_I q7 R34 Y35 := hv39.1
  have h35 : ∀ k, k ≤ 16 → R34 10 k = R 10 k := fun k hk => by rw [hB39.2.1 10 k (by omega), f29 10 k (by omega), (k15 10 k (by omega)).2.2]
  show yi_D zi_Ms d zi_m162 k (23, [(1, .inr (.inr (some q7))), (0, .inr (.inr (some 10)))], [.inl f38], (I32, L33, R34, Y35), (((0 + 1) + n24) + n36), ((m12 + m25) + m37)) _
  refine yi_D_run 2 (25, [(2, .inl f38), (1, .inr (.inr (some q7))), (0, .inr (.inr (some 10)))], [.inl f38], (I32, L33, R34, Y35), (((0 + 1) + n24) + n36), ((m12 + m25) + m37)) (fun _ => rfl) ?_
  by_cases h42 : f38 = 0
  · refine yi_D_if1 true rfl (yi_eq_t h42) ?_
    refine yi_D_run 2 (32, [(2, .inl f38), (1, .inr (.inr (some q7))), (0, .inr (.inr (some 10)))], [.inr (.inr (some q7)), .inr (.inr (some 10))], (I32, L33, R34, Y35), (((0 + 1) + n24) + n36), ((m12 + m25) + m37)) (fun _ => rfl) ?_
    refine yi_D_pr rfl (fun R43 pr44 pr45 => ?_)
    obtain ⟨a0, ld0', nm0', cs0, hsp0, hK0, hW0⟩ := hz41 h42
    have hN35 : q7 + 14 ≤ Y35.2.2 := by have := hB39.2.2.1; omega
    have hJ43 : cw_I q7 R43 Y35 := cw_I_w hJ35 pr45 (fun q' e => by rw [pr44] at e; cases e; exact ⟨by omega, fun _ => by rw [cw_I_10 hJ35]; rfl⟩)
    have hQ43 : lq_R q7 ld0' nm0' I32 L33 R43 Y35 := ⟨⟨by omega, Or.inr (by omega), pr44, by rw [pr45 10 8 (by omega), h35 8 (by omega)]; exact hL.1.2.2.2.1, by omega⟩, hJ43, lq_C_t ⟨R34, fun _ _ _ => rfl, hW0.2.2⟩ (fun p k a b => ⟨rfl, rfl, pr45 p k (by omega)⟩) (fun _ _ => rfl) (Nat.le_refl _)⟩
    refine yi_D_run 1 (36, [(2, .inl f38), (1, .inr (.inr (some q7))), (0, .inr (.inr (some 10)))], [.inr (.inr (some 10))], (I32, L33, R43, Y35), (((0 + 1) + n24) + n36), ((m12 + m25) + m37)) (fun _ => rfl) ?_
    refine yi_D_gr (v := R43 10 2) rfl rfl rfl rfl (fun _ => ?_)
    refine yi_D_run 2 (41, [(2, .inl f38), (1, .inr (.inr (some q7))), (0, .inr (.inr (some 10)))], [.inr (.inr (some 10)), .inr (.inr (some q7)), .inr (.inr (R43 10 2))], (I32, L33, R43, Y35), (((0 + 1) + n24) + n36), ((m12 + m25) + m37)) (fun _ => rfl) ?_
    refine yi_D_gr (v := some 11) rfl rfl rfl (by rw [pr45 10 0 (by omega), h35 0 (by omega)]; exact hR.1) (fun _ => ?_)
    refine yi_D_gr (v := R43 11 2) rfl rfl rfl rfl (fun _ => ?_)
    refine yi_D_callv rfl (yi_P_a (yi_P_void (M := zi_m303) rfl rfl) (cw_P (q := q7) (by omega) hJ43 (by decide +kernel) (cw_vc (cw_I_V hJ43 (by omega) (cw_pr_n (by omega)) (by rw [cw_I_10 hJ43]; rfl)) (cw_vc (cw_vt (by omega)) (cw_vc (cw_I_V hJ43 (by omega) (cw_pr_n (by omega)) (by unfold cw_fg; rw [Bool.or_eq_false_iff, Bool.or_eq_false_iff, Bool.and_eq_false_iff, Bool.and_eq_false_iff, Bool.and_eq_false_iff]; exact ⟨Or.inr rfl, Or.inr rfl, Or.inr rfl⟩)) cw_v0))))) ?_
    rintro _ ⟨⟨I47, L48, R49, Y50, n51, m52, rfl⟩, hv47⟩
    have hQ49 : lq_R q7 ld0' nm0' I47 L48 R49 Y50 := lq_R_h hQ43 hv47
    have hN50 : q7 + 14 ≤ Y50.2.2 := Nat.le_trans hN35 hv47.2.2.2
    show yi_D zi_Ms d zi_m162 k (50, [(2, .inl f38), (1, .inr (.inr (some q7))), (0, .inr (.inr (some 10)))], [], (I47, L48, R49, Y50), ((((0 + 1) + n24) + n36) + n51), (((m12 + m25) + m37) + m52)) _
    refine yi_D_run 1 (51, [(2, .inl f38), (1, .inr (.inr (some q7))), (0, .inr (.inr (some 10)))], [.inr (.inr (some 10))], (I47, L48, R49, Y50), ((((0 + 1) + n24) + n36) + n51), (((m12 + m25) + m37) + m52)) (fun _ => rfl) ?_
    refine yi_D_gr (v := R49 10 6) rfl rfl rfl rfl (fun _ => ?_)
    refine yi_D_run 1 (55, [(2, .inl f38), (1, .inr (.inr (some q7))), (0, .inr (.inr (some 10)))], [.inr (.inr (some q7)), .inr (.inr (R49 10 6))], (I47, L48, R49, Y50), ((((0 + 1) + n24) + n36) + n51), (((m12 + m25) + m37) + m52)) (fun _ => rfl) ?_
    refine yi_D_callv rfl (yi_P_a (yi_P_void (M := zi_m277) rfl rfl) (cw_P (q := q7) (by omega) hQ49.2.1 (by decide +kernel) (cw_vc (cw_I_V hQ49.2.1 (by omega) (cw_pr_n (by omega)) (by rw [cw_I_10 hQ49.2.1]; rfl)) (cw_vc (cw_vt (by omega)) cw_v0)))) ?_
    rintro _ ⟨⟨I53, L54, R55, Y56, n57, m58, rfl⟩, hv53⟩
    have hQ55 : lq_R q7 ld0' nm0' I53 L54 R55 Y56 := lq_R_h hQ49 hv53
    have hN56 : q7 + 14 ≤ Y56.2.2 := Nat.le_trans hN50 hv53.2.2.2
    show yi_D zi_Ms d zi_m162 k (58, [(2, .inl f38), (1, .inr (.inr (some q7))), (0, .inr (.inr (some 10)))], [], (I53, L54, R55, Y56), (((((0 + 1) + n24) + n36) + n51) + n57), ((((m12 + m25) + m37) + m52) + m58)) _
    refine yi_D_run 1 (59, [(2, .inl f38), (1, .inr (.inr (some q7))), (0, .inr (.inr (some 10)))], [.inr (.inr (some 10))], (I53, L54, R55, Y56), (((((0 + 1) + n24) + n36) + n51) + n57), ((((m12 + m25) + m37) + m52) + m58)) (fun _ => rfl) ?_
    refine yi_D_callv rfl (yi_P_a (yi_P_void (M := zi_m152) rfl rfl) (cw_P (q := q7) (by omega) hQ55.2.1 (by decide +kernel) (cw_vn (cw_v10 (by omega) (by omega)) cw_v0))) ?_
    rintro _ ⟨⟨I59, L60, R61, Y62, n63, m64, rfl⟩, hv59⟩
    have hQ61 : lq_R q7 ld0' nm0' I59 L60 R61 Y62 := lq_R_h hQ55 hv59
    show yi_D zi_Ms d zi_m162 k (62, [(2, .inl f38), (1, .inr (.inr (some q7))), (0, .inr (.inr (some 10)))], [], (I59, L60, R61, Y62), ((((((0 + 1) + n24) + n36) + n51) + n57) + n63), (((((m12 + m25) + m37) + m52) + m58) + m64)) _
    refine yi_D_run 2 (64, [(3, .inl 0), (2, .inl f38), (1, .inr (.inr (some q7))), (0, .inr (.inr (some 10)))], [], (I59, L60, R61, Y62), ((((((0 + 1) + n24) + n36) + n51) + n57) + n63), (((((m12 + m25) + m37) + m52) + m58) + m64)) (fun _ => rfl) ?_
    have pt64 : ∀ j64, j64 ≤ k → ∀ (y3 : Int) (J1 : Nat → Nat → Int) (G1 : Nat → Nat → Int) (R1 : Nat → Nat → Option Nat) (Y1 : (Nat → Nat) × (Nat → Nat) × Nat) (n1 : Nat) (m1 : Nat), lq_R q7 ld0' nm0' J1 G1 R1 Y1 → yi_D zi_Ms d zi_m162 j64 (64, [(3, .inl y3), (2, .inl f38), (1, .inr (.inr (some q7))), (0, .inr (.inr (some 10)))], [], (J1, G1, R1, Y1), n1, m1) (fun r => ∃ f I' L' R' Y' n' m', r = (some (.inl f), (I', L', R', Y'), n', m') ∧ sp_R (tk_Ks s n) (tk_Ps s n) (tk_Vs s n) (0, 0, 0, [], sp_ld0, sp_nm0, []) (.inr f) ∧ (¬ f = 0 → lq_R q0 ld0 nm0 I' L' R' Y') ∧ (f = 0 → ∃ q a ld nm cs, sp_R (tk_Ks s n) (tk_Ps s n) (tk_Vs s n) (0, 0, 0, [], sp_ld0, sp_nm0, []) (.inl (2, a, 0, [], ld, nm, cs)) ∧ tk_Ks s n a = 0 ∧ lq_R q ld nm I' L' R' Y')) := by
      intro j64
      induction j64 with
      | zero => intros; exact yi_D_0
      | succ j64 ih64 =>
      intro hk64 y3 J1 G1 R1 Y1 n1 m1 hQ1
      have hN1 : 110 ≤ Y1.2.2 := hQ1.1.2.2.2.2
      refine yi_D_run1 1 (66, [(3, .inl y3), (2, .inl f38), (1, .inr (.inr (some q7))), (0, .inr (.inr (some 10)))], [.inr (.inr (some 10)), .inl y3], (J1, G1, R1, Y1), n1, m1) (fun _ => rfl) ?_
      refine yi_D_gr (v := R1 10 8) rfl rfl rfl rfl (fun _ => ?_)
      refine yi_D_lenu rfl (fun v65 => ?_)
      by_cases h66 : v65 ≤ y3
      · refine yi_D_if2 true rfl (yi_ge_t h66) ?_
        refine yi_D_run 1 (87, [(3, .inl y3), (2, .inl f38), (1, .inr (.inr (some q7))), (0, .inr (.inr (some 10)))], [.inr (.inr (some 10))], (J1, G1, R1, Y1), n1, m1) (fun _ => rfl) ?_
        refine yi_D_callv rfl (yi_P_a (yi_P_void (M := zi_m169) rfl rfl) (cw_P (q := q7) (by omega) hQ1.2.1 (by decide +kernel) (cw_vn (cw_v10 (by omega) (by omega)) cw_v0))) ?_
        rintro _ ⟨⟨I67, L68, R69, Y70, n71, m72, rfl⟩, hv67⟩
        show yi_D zi_Ms d zi_m162 j64 (90, [(3, .inl y3), (2, .inl f38), (1, .inr (.inr (some q7))), (0, .inr (.inr (some 10)))], [], (I67, L68, R69, Y70), (n1 + n71), (m1 + m72)) _
        refine yi_D_run 1 (91, [(3, .inl y3), (2, .inl f38), (1, .inr (.inr (some q7))), (0, .inr (.inr (some 10)))], [.inl 0], (I67, L68, R69, Y70), (n1 + n71), (m1 + m72)) (fun _ => rfl) ?_
        refine yi_D_reti rfl ?_
        exact ⟨_, _, _, _, _, _, _, rfl, (show f38 = 0 by omega) ▸ hsp40, fun h => absurd rfl h, fun _ => ⟨q7, a0, ld0', nm0', cs0, hsp0, hK0, lq_R_h hQ1 hv67⟩⟩
      · refine yi_D_if2 false rfl (yi_ge_f h66) ?_
        refine yi_D_run 1 (74, [(3, .inl y3), (2, .inl f38), (1, .inr (.inr (some q7))), (0, .inr (.inr (some 10)))], [.inr (.inr (some 10))], (J1, G1, R1, Y1), n1, m1) (fun _ => rfl) ?_
        refine yi_D_gr (v := some 57) rfl rfl rfl hQ1.1.2.2.2.1 (fun _ => ?_)
        refine yi_D_run 2 (79, [(3, .inl y3), (2, .inl f38), (1, .inr (.inr (some q7))), (0, .inr (.inr (some 10)))], [.inr (.inr none), .inl y3, .inr (.inr (some 57))], (J1, G1, R1, Y1), n1, m1) (fun _ => rfl) ?_
        refine yi_D_aas2 rfl (fun R73 z73 f73 => ?_)
        have hQ73 := lq_R_n hQ1 z73 f73
        refine yi_D_iinc [(3, .inl (yi_w (y3 + 1))), (2, .inl f38), (1, .inr (.inr (some q7))), (0, .inr (.inr (some 10)))] rfl rfl rfl rfl ?_
        refine yi_D_run 1 (64, [(3, .inl (yi_w (y3 + 1))), (2, .inl f38), (1, .inr (.inr (some q7))), (0, .inr (.inr (some 10)))], [], (J1, G1, R73, Y1), n1, m1) (fun _ => rfl) ?_
        exact yi_D_mono (ih64 (by omega) (yi_w (y3 + 1)) J1 G1 R73 Y1 n1 m1 hQ73) (by omega)
    exact pt64 k (Nat.le_refl _) 0 I59 L60 R61 Y62 ((((((0 + 1) + n24) + n36) + n51) + n57) + n63) (((((m12 + m25) + m37) + m52) + m58) + m64) hQ61
  · refine yi_D_if1 false rfl (yi_eq_f h42) ?_
    refine yi_D_run 1 (29, [(2, .inl f38), (1, .inr (.inr (some q7))), (0, .inr (.inr (some 10)))], [.inl f38], (I32, L33, R34, Y35), (((0 + 1) + n24) + n36), ((m12 + m25) + m37)) (fun _ => rfl) ?_
    refine yi_D_reti rfl ?_
    have hq0 : q0 + 14 ≤ Y.2.2 := by obtain ⟨R2, _, h⟩ := hL.2.2; exact h.1.2.2.2.2.2.2
    have hq58 := hL.1.1
    have hq82 := hL.1.2.1
    refine ⟨_, _, _, _, _, _, _, rfl, hsp40, fun _ => ?_, fun h => absurd h h42⟩
    have hY23 : ∀ p, p < Y.2.2 → Y35.2.1 p = Y.2.1 p := fun p hp => by rw [(hB39.2.2.2 p (by omega)).1, (f31 p (by omega)).1, (k17 p (by omega)).2]
    refine ⟨⟨hq58, hq82, (h35 16 (by omega)).trans hL.1.2.2.1, (h35 8 (by omega)).trans hL.1.2.2.2.1, by have := hB39.2.2.1; omega⟩, hI35, lq_C_t hL.2.2 (fun p k a b => ⟨?_, ?_, ?_⟩) hY23 (by have := hB39.2.2.1; omega)⟩
    · rw [(hB39.1 p k (by omega) (by omega) (by omega) (by omega)).1, f27 p k (by omega), (k15 p k (by omega)).1, fI5 p k (by omega)]
    · rw [(hB39.1 p k (by omega) (by omega) (by omega) (by omega)).2, f28 p k (by omega), (k15 p k (by omega)).2.1, fL6 p k (by omega)]
    · rw [hB39.2.1 p k (by omega), f29 p k (by omega), (k15 p k (by omega)).2.2]
