/-! The class reads a land. -/
section YD
variable {Ms : List zi_M} {d : Nat} {M : zi_M} {k : Nat} {Q : yi_R → Prop} {pc n : Nat} {al : List (Nat × yi_V)} {st : List yi_V} {I L : Nat → Nat → Int} {R : Nat → Nat → Option Nat} {Y : (Nat → Nat) × (Nat → Nat) × Nat} {nc ns : Nat}
/-- a cell that is made -/
def yi_mkd (q : Nat) (I L : Nat → Nat → Int) (R : Nat → Nat → Option Nat) (Y : (Nat → Nat) × (Nat → Nat) × Nat) (I2 L2 : Nat → Nat → Int) (R2 : Nat → Nat → Option Nat) (Y2 : (Nat → Nat) × (Nat → Nat) × Nat) (x : Nat) : Prop := q = Y.2.2 ∧ (∀ p k, p ≠ q → I2 p k = I p k ∧ L2 p k = L p k ∧ R2 p k = R p k) ∧ (∀ k, I2 q k = 0) ∧ (∀ p, p ≠ q → Y2.1 p = Y.1 p ∧ Y2.2.1 p = Y.2.1 p) ∧ Y2.2.1 q = x ∧ Y2.2.2 = q + 1
theorem yi_mkd_i (j x : Nat) : yi_mkd Y.2.2 I L R Y (yi_nw (I, L, R, Y) j x).1 (yi_nw (I, L, R, Y) j x).2.1 (yi_nw (I, L, R, Y) j x).2.2.1 (yi_nw (I, L, R, Y) j x).2.2.2 x := ⟨rfl, fun p k hp => ⟨if_neg hp, if_neg hp, if_neg hp⟩, fun k => if_pos rfl, fun p hp => ⟨if_neg hp, if_neg hp⟩, if_pos rfl, rfl⟩
theorem yi_D_new {j ci : Nat} {o : List Nat} (h1 : zi_lk2 pc M.2.2.2.2.1 = some (.new j, n, ci :: o)) (hg : ∀ q I2 L2 R2 Y2 m, yi_mkd q I L R Y I2 L2 R2 Y2 0 → yi_D Ms d M k (pc + n, al, .inr (.inr (some q)) :: st, (I2, L2, R2, Y2), nc + 1, m) Q) : yi_D Ms d M k (pc, al, st, (I, L, R, Y), nc, ns) Q := by
  refine yi_D_l1 (g := (pc + n, al, .inr (.inr (some Y.2.2)) :: st, yi_nw (I, L, R, Y) ci 0, nc + 1, ns + (zi_Fs.getD ci ("", [])).2.length)) (c := Nat.ble (ci + 1) 12) h1 rfl (fun call => rfl) (fun _ => hg _ _ _ _ _ _ (yi_mkd_i ci 0))
theorem yi_D_nwq {ty : ArrayType} {t : Nat} {o : List Nat} {x : Int} (h1 : zi_lk2 pc M.2.2.2.2.1 = some (.newarray ty, n, t :: o)) (hg : ∀ q I2 L2 R2 Y2 m, yi_mkd q I L R Y I2 L2 R2 Y2 x.toNat → yi_D Ms d M k (pc + n, al, .inr (.inr (some q)) :: st, (I2, L2, R2, Y2), nc + 1, m) Q) : yi_D Ms d M k (pc, al, .inl x :: st, (I, L, R, Y), nc, ns) Q := by
  refine yi_D_l1 (g := (pc + n, al, .inr (.inr (some Y.2.2)) :: st, yi_nw (I, L, R, Y) (20 + t) x.toNat, nc + 1, ns + x.toNat)) (c := decide (0 ≤ x) && decide (x ≤ 1000000) && Nat.ble t 6) h1 rfl (fun call => rfl) (fun _ => hg _ _ _ _ _ _ (yi_mkd_i (20 + t) x.toNat))
/-- a field of what is not known -/
theorem yi_D_gru {j ci f : Nat} {o : List Nat} {z : Option Nat} (h1 : zi_lk2 pc M.2.2.2.2.1 = some (.getfield j, n, ci :: f :: o)) (hk : yi_tk (zi_ty ci f) = 2) (hc : Nat.beq ci 100 = false) (hg : ∀ w, yi_D Ms d M k (pc + n, al, .inr (.inr w) :: st, (I, L, R, Y), nc, ns) Q) : yi_D Ms d M k (pc, al, .inr (.inr z) :: st, (I, L, R, Y), nc, ns) Q := by
  cases z with
  | none => exact yi_D_l1 (g := (pc, al, st, (I, L, R, Y), nc, ns)) (c := false) h1 rfl (fun _ => rfl) (fun h => by cases h)
  | some p =>
    by_cases hp : Nat.ble 10 p = true
    · exact yi_D_gr h1 hk hp rfl (fun _ => hg _)
    · refine yi_D_l1 (g := (pc, al, st, (I, L, R, Y), nc, ns)) (c := false) h1 rfl (fun _ => ?_) (fun h => by cases h)
      show (bif Nat.ble 10 p then _ else bif Nat.ble (p + 1) 4 && Nat.beq ci 100 then _ else none) = _
      rw [Bool.eq_false_iff.mpr hp, hc, Bool.and_false]
      rfl
theorem yi_D_lenu {o : List Nat} {z : Option Nat} (h1 : zi_lk2 pc M.2.2.2.2.1 = some (.arraylength, n, o)) (hg : ∀ v, yi_D Ms d M k (pc + n, al, .inl v :: st, (I, L, R, Y), nc, ns) Q) : yi_D Ms d M k (pc, al, .inr (.inr z) :: st, (I, L, R, Y), nc, ns) Q := by
  refine yi_D_l h1 rfl (fun m g e j r hj l => ?_)
  cases z with
  | none => have e : (none : yi_O) = some (.inl g) := e; cases e
  | some p =>
    have e : yi_len pc n al (.inr (.inr (some p)) :: st) (I, L, R, Y) nc ns [] = some (.inl g) := e
    unfold yi_len at e
    dsimp only at e
    cases h1 : Nat.ble 10 p with
    | true =>
      rw [h1] at e
      dsimp only [cond_true] at e
      cases h2 : (Nat.ble 20 (Y.1 p) && Nat.ble (Y.1 p) 26) with
      | true => rw [h2] at e; cases e; exact hg _ m j r (by omega) l
      | false => rw [h2] at e; cases e
    | false =>
      rw [h1] at e
      dsimp only [cond_false] at e
      cases h2 : Nat.beq p 8 with
      | true => rw [h2] at e; cases e
      | false =>
        rw [h2] at e
        dsimp only [cond_false] at e
        cases h3 : (Nat.ble 4 p && Nat.ble (p + 1) 8) with
        | true => rw [h3] at e; cases e; exact hg _ m j r (by omega) l
        | false => rw [h3] at e; cases e
theorem yi_D_aasu {o : List Nat} {z w : Option Nat} {x : Int} (h1 : zi_lk2 pc M.2.2.2.2.1 = some (.aastore, n, o)) (hg : ∀ R2, yi_D Ms d M k (pc + n, al, st, (I, L, R2, Y), nc, ns) Q) : yi_D Ms d M k (pc, al, .inr (.inr w) :: .inl x :: .inr (.inr z) :: st, (I, L, R, Y), nc, ns) Q := by
  cases z with
  | none => exact yi_D_l1 (g := (pc, al, st, (I, L, R, Y), nc, ns)) (c := false) h1 rfl (fun _ => rfl) (fun h => by cases h)
  | some p => exact yi_D_l1 (g := (pc + n, al, st, yi_uR (I, L, R, Y) p x.toNat w, nc, ns)) (c := Nat.ble 10 p && Nat.ble 24 (Y.1 p) && Nat.ble (Y.1 p) 26 && decide (0 ≤ x) && decide (x < Y.2.1 p) && yi_nz (I, L, R, Y) (Y.1 p) w) h1 rfl (fun _ => rfl) (fun _ => hg _)
end YD
theorem p_initLand {d : Nat} {I L : Nat → Nat → Int} {R : Nat → Nat → Option Nat} {Y : (Nat → Nat) × (Nat → Nat) × Nat} {q : Nat} (hq : 20 ≤ q) (hY : Y.2.2 = q + 1) (h0 : ∀ k, I q k = 0) : yi_P zi_Ms d 219 [.inr (.inr (some q))] (I, L, R, Y) (fun r => ∃ I' L' R' Y' n m, r = (none, (I', L', R', Y'), n, m) ∧ cs_N0 I' L' R' Y' q ∧ (∀ p k, p < q → I' p k = I p k) ∧ (∀ p k, p < q → L' p k = L p k) ∧ (∀ p k, p < q → R' p k = R p k) ∧ q < Y'.2.2 ∧ (∀ p, p < q → Y'.2.1 p = Y.2.1 p ∧ Y'.1 p = Y.1 p)) := by
  refine yi_P_of (M := zi_m219) rfl (fun d k => ?_)
  show yi_D zi_Ms d zi_m219 k (0, [(0, .inr (.inr (some q)))], [], (I, L, R, Y), 0, 0) _
  refine yi_D_run 4 (6, [(0, .inr (.inr (some q)))], [.inl 4, .inr (.inr (some q))], (I, L, R, Y), 0, 0) (fun _ => rfl) ?_
  refine yi_D_nwq rfl (fun q1 I2 L3 R4 Y5 m6 mk7 => ?_)
  obtain ⟨k8, k9, k10, k11, k12, k13⟩ := mk7
  refine yi_D_pr rfl (fun R14 pr15 pr16 => ?_)
  refine yi_D_run 2 (13, [(0, .inr (.inr (some q)))], [.inl 4, .inr (.inr (some q))], (I2, L3, R14, Y5), (0 + 1), m6) (fun _ => rfl) ?_
  refine yi_D_nwq rfl (fun q17 I18 L19 R20 Y21 m22 mk23 => ?_)
  obtain ⟨k24, k25, k26, k27, k28, k29⟩ := mk23
  refine yi_D_pr rfl (fun R30 pr31 pr32 => ?_)
  refine yi_D_run 2 (20, [(0, .inr (.inr (some q)))], [.inl 5, .inr (.inr (some q))], (I18, L19, R30, Y21), ((0 + 1) + 1), m22) (fun _ => rfl) ?_
  refine yi_D_nwq rfl (fun q33 I34 L35 R36 Y37 m38 mk39 => ?_)
  obtain ⟨k40, k41, k42, k43, k44, k45⟩ := mk39
  refine yi_D_pr rfl (fun R46 pr47 pr48 => ?_)
  refine yi_D_run 2 (27, [(0, .inr (.inr (some q)))], [.inl 4, .inr (.inr (some q))], (I34, L35, R46, Y37), (((0 + 1) + 1) + 1), m38) (fun _ => rfl) ?_
  refine yi_D_nwq rfl (fun q49 I50 L51 R52 Y53 m54 mk55 => ?_)
  obtain ⟨k56, k57, k58, k59, k60, k61⟩ := mk55
  refine yi_D_pr rfl (fun R62 pr63 pr64 => ?_)
  refine yi_D_run 2 (34, [(0, .inr (.inr (some q)))], [.inl 5, .inr (.inr (some q))], (I50, L51, R62, Y53), ((((0 + 1) + 1) + 1) + 1), m54) (fun _ => rfl) ?_
  refine yi_D_nwq rfl (fun q65 I66 L67 R68 Y69 m70 mk71 => ?_)
  obtain ⟨k72, k73, k74, k75, k76, k77⟩ := mk71
  refine yi_D_pr rfl (fun R78 pr79 pr80 => ?_)
  refine yi_D_run 2 (41, [(0, .inr (.inr (some q)))], [.inl 5, .inr (.inr (some q))], (I66, L67, R78, Y69), (((((0 + 1) + 1) + 1) + 1) + 1), m70) (fun _ => rfl) ?_
  refine yi_D_nwq rfl (fun q81 I82 L83 R84 Y85 m86 mk87 => ?_)
  obtain ⟨k88, k89, k90, k91, k92, k93⟩ := mk87
  refine yi_D_pr rfl (fun R94 pr95 pr96 => ?_)
  refine yi_D_run 2 (49, [(0, .inr (.inr (some q)))], [.inl 6, .inr (.inr (some q))], (I82, L83, R94, Y85), ((((((0 + 1) + 1) + 1) + 1) + 1) + 1), m86) (fun _ => rfl) ?_
  refine yi_D_nwq rfl (fun q97 I98 L99 R100 Y101 m102 mk103 => ?_)
  obtain ⟨k104, k105, k106, k107, k108, k109⟩ := mk103
  refine yi_D_pr rfl (fun R110 pr111 pr112 => ?_)
  refine yi_D_run 2 (57, [(0, .inr (.inr (some q)))], [.inl 6, .inr (.inr (some q))], (I98, L99, R110, Y101), (((((((0 + 1) + 1) + 1) + 1) + 1) + 1) + 1), m102) (fun _ => rfl) ?_
  refine yi_D_nwq rfl (fun q113 I114 L115 R116 Y117 m118 mk119 => ?_)
  obtain ⟨k120, k121, k122, k123, k124, k125⟩ := mk119
  refine yi_D_pr rfl (fun R126 pr127 pr128 => ?_)
  refine yi_D_run 2 (64, [(0, .inr (.inr (some q)))], [.inl 4, .inr (.inr (some q))], (I114, L115, R126, Y117), ((((((((0 + 1) + 1) + 1) + 1) + 1) + 1) + 1) + 1), m118) (fun _ => rfl) ?_
  refine yi_D_nwq rfl (fun q129 I130 L131 R132 Y133 m134 mk135 => ?_)
  obtain ⟨k136, k137, k138, k139, k140, k141⟩ := mk135
  refine yi_D_pr rfl (fun R142 pr143 pr144 => ?_)
  refine yi_D_run 2 (71, [(0, .inr (.inr (some q)))], [.inl 4, .inr (.inr (some q))], (I130, L131, R142, Y133), (((((((((0 + 1) + 1) + 1) + 1) + 1) + 1) + 1) + 1) + 1), m134) (fun _ => rfl) ?_
  refine yi_D_nwq rfl (fun q145 I146 L147 R148 Y149 m150 mk151 => ?_)
  obtain ⟨k152, k153, k154, k155, k156, k157⟩ := mk151
  refine yi_D_pr rfl (fun R158 pr159 pr160 => ?_)
  refine yi_D_run 2 (79, [(0, .inr (.inr (some q)))], [.inl 6, .inr (.inr (some q))], (I146, L147, R158, Y149), ((((((((((0 + 1) + 1) + 1) + 1) + 1) + 1) + 1) + 1) + 1) + 1), m150) (fun _ => rfl) ?_
  refine yi_D_nwq rfl (fun q161 I162 L163 R164 Y165 m166 mk167 => ?_)
  obtain ⟨k168, k169, k170, k171, k172, k173⟩ := mk167
  refine yi_D_pr rfl (fun R174 pr175 pr176 => ?_)
  refine yi_D_run 2 (87, [(0, .inr (.inr (some q)))], [.inl 6, .inr (.inr (some q))], (I162, L163, R174, Y165), (((((((((((0 + 1) + 1) + 1) + 1) + 1) + 1) + 1) + 1) + 1) + 1) + 1), m166) (fun _ => rfl) ?_
  refine yi_D_nwq rfl (fun q177 I178 L179 R180 Y181 m182 mk183 => ?_)
  obtain ⟨k184, k185, k186, k187, k188, k189⟩ := mk183
  refine yi_D_pr rfl (fun R190 pr191 pr192 => ?_)
  refine yi_D_run 2 (94, [(0, .inr (.inr (some q)))], [.inl 1, .inr (.inr (some q))], (I178, L179, R190, Y181), ((((((((((((0 + 1) + 1) + 1) + 1) + 1) + 1) + 1) + 1) + 1) + 1) + 1) + 1), m182) (fun _ => rfl) ?_
  refine yi_D_nwq rfl (fun q193 I194 L195 R196 Y197 m198 mk199 => ?_)
  obtain ⟨k200, k201, k202, k203, k204, k205⟩ := mk199
  refine yi_D_run 3 (101, [(0, .inr (.inr (some q)))], [.inl 258, .inl 0, .inr (.inr (some q193)), .inr (.inr (some q193)), .inr (.inr (some q))], (I194, L195, R196, Y197), (((((((((((((0 + 1) + 1) + 1) + 1) + 1) + 1) + 1) + 1) + 1) + 1) + 1) + 1) + 1), m198) (fun _ => rfl) ?_
  refine yi_D_is rfl (fun _ _ => ?_)
  show yi_D zi_Ms d zi_m219 k (102, [(0, .inr (.inr (some q)))], [.inr (.inr (some q193)), .inr (.inr (some q))], ((yi_u I194 q193 0 258), L195, R196, Y197), (((((((((((((0 + 1) + 1) + 1) + 1) + 1) + 1) + 1) + 1) + 1) + 1) + 1) + 1) + 1), m198) _
  generalize w207 : yi_u I194 q193 0 258 = I206
  refine yi_D_pr rfl (fun R208 pr209 pr210 => ?_)
  refine yi_D_run 2 (107, [(0, .inr (.inr (some q)))], [.inl 1, .inr (.inr (some q))], (I206, L195, R208, Y197), (((((((((((((0 + 1) + 1) + 1) + 1) + 1) + 1) + 1) + 1) + 1) + 1) + 1) + 1) + 1), m198) (fun _ => rfl) ?_
  refine yi_D_pi rfl (fun _ => ?_)
  generalize w212 : yi_u I206 q 14 1 = I211
  refine yi_D_retv rfl ?_
  have hq0 : q1 = q + 1 := by omega
  have hq1 : q17 = q + 2 := by omega
  have hq2 : q33 = q + 3 := by omega
  have hq3 : q49 = q + 4 := by omega
  have hq4 : q65 = q + 5 := by omega
  have hq5 : q81 = q + 6 := by omega
  have hq6 : q97 = q + 7 := by omega
  have hq7 : q113 = q + 8 := by omega
  have hq8 : q129 = q + 9 := by omega
  have hq9 : q145 = q + 10 := by omega
  have hq10 : q161 = q + 11 := by omega
  have hq11 : q177 = q + 12 := by omega
  have hq12 : q193 = q + 13 := by omega
  have hr0 : R208 q 0 = some (q + 1 + 0) := by rw [pr210 q 0 (by omega), (k201 q 0 (by omega)).2.2, pr192 q 0 (by omega), (k185 q 0 (by omega)).2.2, pr176 q 0 (by omega), (k169 q 0 (by omega)).2.2, pr160 q 0 (by omega), (k153 q 0 (by omega)).2.2, pr144 q 0 (by omega), (k137 q 0 (by omega)).2.2, pr128 q 0 (by omega), (k121 q 0 (by omega)).2.2, pr112 q 0 (by omega), (k105 q 0 (by omega)).2.2, pr96 q 0 (by omega), (k89 q 0 (by omega)).2.2, pr80 q 0 (by omega), (k73 q 0 (by omega)).2.2, pr64 q 0 (by omega), (k57 q 0 (by omega)).2.2, pr48 q 0 (by omega), (k41 q 0 (by omega)).2.2, pr32 q 0 (by omega), (k25 q 0 (by omega)).2.2, pr15]; exact congrArg some (by omega)
  have hr1 : R208 q 1 = some (q + 1 + 1) := by rw [pr210 q 1 (by omega), (k201 q 1 (by omega)).2.2, pr192 q 1 (by omega), (k185 q 1 (by omega)).2.2, pr176 q 1 (by omega), (k169 q 1 (by omega)).2.2, pr160 q 1 (by omega), (k153 q 1 (by omega)).2.2, pr144 q 1 (by omega), (k137 q 1 (by omega)).2.2, pr128 q 1 (by omega), (k121 q 1 (by omega)).2.2, pr112 q 1 (by omega), (k105 q 1 (by omega)).2.2, pr96 q 1 (by omega), (k89 q 1 (by omega)).2.2, pr80 q 1 (by omega), (k73 q 1 (by omega)).2.2, pr64 q 1 (by omega), (k57 q 1 (by omega)).2.2, pr48 q 1 (by omega), (k41 q 1 (by omega)).2.2, pr31]; exact congrArg some (by omega)
  have hr2 : R208 q 2 = some (q + 1 + 2) := by rw [pr210 q 2 (by omega), (k201 q 2 (by omega)).2.2, pr192 q 2 (by omega), (k185 q 2 (by omega)).2.2, pr176 q 2 (by omega), (k169 q 2 (by omega)).2.2, pr160 q 2 (by omega), (k153 q 2 (by omega)).2.2, pr144 q 2 (by omega), (k137 q 2 (by omega)).2.2, pr128 q 2 (by omega), (k121 q 2 (by omega)).2.2, pr112 q 2 (by omega), (k105 q 2 (by omega)).2.2, pr96 q 2 (by omega), (k89 q 2 (by omega)).2.2, pr80 q 2 (by omega), (k73 q 2 (by omega)).2.2, pr64 q 2 (by omega), (k57 q 2 (by omega)).2.2, pr47]; exact congrArg some (by omega)
  have hr3 : R208 q 3 = some (q + 1 + 3) := by rw [pr210 q 3 (by omega), (k201 q 3 (by omega)).2.2, pr192 q 3 (by omega), (k185 q 3 (by omega)).2.2, pr176 q 3 (by omega), (k169 q 3 (by omega)).2.2, pr160 q 3 (by omega), (k153 q 3 (by omega)).2.2, pr144 q 3 (by omega), (k137 q 3 (by omega)).2.2, pr128 q 3 (by omega), (k121 q 3 (by omega)).2.2, pr112 q 3 (by omega), (k105 q 3 (by omega)).2.2, pr96 q 3 (by omega), (k89 q 3 (by omega)).2.2, pr80 q 3 (by omega), (k73 q 3 (by omega)).2.2, pr63]; exact congrArg some (by omega)
  have hr4 : R208 q 4 = some (q + 1 + 4) := by rw [pr210 q 4 (by omega), (k201 q 4 (by omega)).2.2, pr192 q 4 (by omega), (k185 q 4 (by omega)).2.2, pr176 q 4 (by omega), (k169 q 4 (by omega)).2.2, pr160 q 4 (by omega), (k153 q 4 (by omega)).2.2, pr144 q 4 (by omega), (k137 q 4 (by omega)).2.2, pr128 q 4 (by omega), (k121 q 4 (by omega)).2.2, pr112 q 4 (by omega), (k105 q 4 (by omega)).2.2, pr96 q 4 (by omega), (k89 q 4 (by omega)).2.2, pr79]; exact congrArg some (by omega)
  have hr5 : R208 q 5 = some (q + 1 + 5) := by rw [pr210 q 5 (by omega), (k201 q 5 (by omega)).2.2, pr192 q 5 (by omega), (k185 q 5 (by omega)).2.2, pr176 q 5 (by omega), (k169 q 5 (by omega)).2.2, pr160 q 5 (by omega), (k153 q 5 (by omega)).2.2, pr144 q 5 (by omega), (k137 q 5 (by omega)).2.2, pr128 q 5 (by omega), (k121 q 5 (by omega)).2.2, pr112 q 5 (by omega), (k105 q 5 (by omega)).2.2, pr95]; exact congrArg some (by omega)
  have hr6 : R208 q 6 = some (q + 1 + 6) := by rw [pr210 q 6 (by omega), (k201 q 6 (by omega)).2.2, pr192 q 6 (by omega), (k185 q 6 (by omega)).2.2, pr176 q 6 (by omega), (k169 q 6 (by omega)).2.2, pr160 q 6 (by omega), (k153 q 6 (by omega)).2.2, pr144 q 6 (by omega), (k137 q 6 (by omega)).2.2, pr128 q 6 (by omega), (k121 q 6 (by omega)).2.2, pr111]; exact congrArg some (by omega)
  have hr7 : R208 q 7 = some (q + 1 + 7) := by rw [pr210 q 7 (by omega), (k201 q 7 (by omega)).2.2, pr192 q 7 (by omega), (k185 q 7 (by omega)).2.2, pr176 q 7 (by omega), (k169 q 7 (by omega)).2.2, pr160 q 7 (by omega), (k153 q 7 (by omega)).2.2, pr144 q 7 (by omega), (k137 q 7 (by omega)).2.2, pr127]; exact congrArg some (by omega)
  have hr8 : R208 q 8 = some (q + 1 + 8) := by rw [pr210 q 8 (by omega), (k201 q 8 (by omega)).2.2, pr192 q 8 (by omega), (k185 q 8 (by omega)).2.2, pr176 q 8 (by omega), (k169 q 8 (by omega)).2.2, pr160 q 8 (by omega), (k153 q 8 (by omega)).2.2, pr143]; exact congrArg some (by omega)
  have hr9 : R208 q 9 = some (q + 1 + 9) := by rw [pr210 q 9 (by omega), (k201 q 9 (by omega)).2.2, pr192 q 9 (by omega), (k185 q 9 (by omega)).2.2, pr176 q 9 (by omega), (k169 q 9 (by omega)).2.2, pr159]; exact congrArg some (by omega)
  have hr10 : R208 q 10 = some (q + 1 + 10) := by rw [pr210 q 10 (by omega), (k201 q 10 (by omega)).2.2, pr192 q 10 (by omega), (k185 q 10 (by omega)).2.2, pr175]; exact congrArg some (by omega)
  have hr11 : R208 q 11 = some (q + 1 + 11) := by rw [pr210 q 11 (by omega), (k201 q 11 (by omega)).2.2, pr191]; exact congrArg some (by omega)
  refine ⟨_, _, _, _, _, _, rfl, ⟨⟨hq, fun j hj => ?_, by rw [← hq0, (k203 q1 (by omega)).2, (k187 q1 (by omega)).2, (k171 q1 (by omega)).2, (k155 q1 (by omega)).2, (k139 q1 (by omega)).2, (k123 q1 (by omega)).2, (k107 q1 (by omega)).2, (k91 q1 (by omega)).2, (k75 q1 (by omega)).2, (k59 q1 (by omega)).2, (k43 q1 (by omega)).2, (k27 q1 (by omega)).2, k12]; rfl, by rw [← hq1, (k203 q17 (by omega)).2, (k187 q17 (by omega)).2, (k171 q17 (by omega)).2, (k155 q17 (by omega)).2, (k139 q17 (by omega)).2, (k123 q17 (by omega)).2, (k107 q17 (by omega)).2, (k91 q17 (by omega)).2, (k75 q17 (by omega)).2, (k59 q17 (by omega)).2, (k43 q17 (by omega)).2, k28]; rfl, by rw [← hq2, (k203 q33 (by omega)).2, (k187 q33 (by omega)).2, (k171 q33 (by omega)).2, (k155 q33 (by omega)).2, (k139 q33 (by omega)).2, (k123 q33 (by omega)).2, (k107 q33 (by omega)).2, (k91 q33 (by omega)).2, (k75 q33 (by omega)).2, (k59 q33 (by omega)).2, k44]; rfl, by omega⟩, ?_, ?_, ?_, ?_, ?_, ?_, ?_⟩, fun p k hp => by rw [← w212, yi_u_ne _ _ (by omega), ← w207, yi_u_ne _ _ (by omega), (fun p k hp => (k201 p k hp).1) p k (by omega), (fun p k hp => (k185 p k hp).1) p k (by omega), (fun p k hp => (k169 p k hp).1) p k (by omega), (fun p k hp => (k153 p k hp).1) p k (by omega), (fun p k hp => (k137 p k hp).1) p k (by omega), (fun p k hp => (k121 p k hp).1) p k (by omega), (fun p k hp => (k105 p k hp).1) p k (by omega), (fun p k hp => (k89 p k hp).1) p k (by omega), (fun p k hp => (k73 p k hp).1) p k (by omega), (fun p k hp => (k57 p k hp).1) p k (by omega), (fun p k hp => (k41 p k hp).1) p k (by omega), (fun p k hp => (k25 p k hp).1) p k (by omega), (fun p k hp => (k9 p k hp).1) p k (by omega)], fun p k hp => by rw [(fun p k hp => (k201 p k hp).2.1) p k (by omega), (fun p k hp => (k185 p k hp).2.1) p k (by omega), (fun p k hp => (k169 p k hp).2.1) p k (by omega), (fun p k hp => (k153 p k hp).2.1) p k (by omega), (fun p k hp => (k137 p k hp).2.1) p k (by omega), (fun p k hp => (k121 p k hp).2.1) p k (by omega), (fun p k hp => (k105 p k hp).2.1) p k (by omega), (fun p k hp => (k89 p k hp).2.1) p k (by omega), (fun p k hp => (k73 p k hp).2.1) p k (by omega), (fun p k hp => (k57 p k hp).2.1) p k (by omega), (fun p k hp => (k41 p k hp).2.1) p k (by omega), (fun p k hp => (k25 p k hp).2.1) p k (by omega), (fun p k hp => (k9 p k hp).2.1) p k (by omega)], fun p k hp => by rw [pr210 p k (by omega), (k201 p k (by omega)).2.2, pr192 p k (by omega), (k185 p k (by omega)).2.2, pr176 p k (by omega), (k169 p k (by omega)).2.2, pr160 p k (by omega), (k153 p k (by omega)).2.2, pr144 p k (by omega), (k137 p k (by omega)).2.2, pr128 p k (by omega), (k121 p k (by omega)).2.2, pr112 p k (by omega), (k105 p k (by omega)).2.2, pr96 p k (by omega), (k89 p k (by omega)).2.2, pr80 p k (by omega), (k73 p k (by omega)).2.2, pr64 p k (by omega), (k57 p k (by omega)).2.2, pr48 p k (by omega), (k41 p k (by omega)).2.2, pr32 p k (by omega), (k25 p k (by omega)).2.2, pr16 p k (by omega), (k9 p k (by omega)).2.2], by omega, fun p hp => ⟨by rw [(k203 p (by omega)).2, (k187 p (by omega)).2, (k171 p (by omega)).2, (k155 p (by omega)).2, (k139 p (by omega)).2, (k123 p (by omega)).2, (k107 p (by omega)).2, (k91 p (by omega)).2, (k75 p (by omega)).2, (k59 p (by omega)).2, (k43 p (by omega)).2, (k27 p (by omega)).2, (k11 p (by omega)).2], by rw [(k203 p (by omega)).1, (k187 p (by omega)).1, (k171 p (by omega)).1, (k155 p (by omega)).1, (k139 p (by omega)).1, (k123 p (by omega)).1, (k107 p (by omega)).1, (k91 p (by omega)).1, (k75 p (by omega)).1, (k59 p (by omega)).1, (k43 p (by omega)).1, (k27 p (by omega)).1, (k11 p (by omega)).1]⟩⟩
  · obtain rfl | rfl | rfl | rfl | rfl | rfl | rfl | rfl | rfl | rfl | rfl | rfl : j = 0 ∨ j = 1 ∨ j = 2 ∨ j = 3 ∨ j = 4 ∨ j = 5 ∨ j = 6 ∨ j = 7 ∨ j = 8 ∨ j = 9 ∨ j = 10 ∨ j = 11 := by omega
    · exact hr0
    · exact hr1
    · exact hr2
    · exact hr3
    · exact hr4
    · exact hr5
    · exact hr6
    · exact hr7
    · exact hr8
    · exact hr9
    · exact hr10
    · exact hr11
  · rw [← w212, yi_u_ne _ _ (by omega), ← w207, yi_u_ne _ _ (by omega), (fun p k hp => (k201 p k hp).1) q 13 (by omega), (fun p k hp => (k185 p k hp).1) q 13 (by omega), (fun p k hp => (k169 p k hp).1) q 13 (by omega), (fun p k hp => (k153 p k hp).1) q 13 (by omega), (fun p k hp => (k137 p k hp).1) q 13 (by omega), (fun p k hp => (k121 p k hp).1) q 13 (by omega), (fun p k hp => (k105 p k hp).1) q 13 (by omega), (fun p k hp => (k89 p k hp).1) q 13 (by omega), (fun p k hp => (k73 p k hp).1) q 13 (by omega), (fun p k hp => (k57 p k hp).1) q 13 (by omega), (fun p k hp => (k41 p k hp).1) q 13 (by omega), (fun p k hp => (k25 p k hp).1) q 13 (by omega), (fun p k hp => (k9 p k hp).1) q 13 (by omega)]; exact h0 13
  · rw [← w212, yi_u_eq]
  · rw [← w212, yi_u_ne _ _ (by omega), ← w207, yi_u_ne _ _ (by omega), (fun p k hp => (k201 p k hp).1) q 15 (by omega), (fun p k hp => (k185 p k hp).1) q 15 (by omega), (fun p k hp => (k169 p k hp).1) q 15 (by omega), (fun p k hp => (k153 p k hp).1) q 15 (by omega), (fun p k hp => (k137 p k hp).1) q 15 (by omega), (fun p k hp => (k121 p k hp).1) q 15 (by omega), (fun p k hp => (k105 p k hp).1) q 15 (by omega), (fun p k hp => (k89 p k hp).1) q 15 (by omega), (fun p k hp => (k73 p k hp).1) q 15 (by omega), (fun p k hp => (k57 p k hp).1) q 15 (by omega), (fun p k hp => (k41 p k hp).1) q 15 (by omega), (fun p k hp => (k25 p k hp).1) q 15 (by omega), (fun p k hp => (k9 p k hp).1) q 15 (by omega)]; exact h0 15
  · rw [← w212, yi_u_ne _ _ (by omega), ← w207, yi_u_ne _ _ (by omega), (fun p k hp => (k201 p k hp).1) q 16 (by omega), (fun p k hp => (k185 p k hp).1) q 16 (by omega), (fun p k hp => (k169 p k hp).1) q 16 (by omega), (fun p k hp => (k153 p k hp).1) q 16 (by omega), (fun p k hp => (k137 p k hp).1) q 16 (by omega), (fun p k hp => (k121 p k hp).1) q 16 (by omega), (fun p k hp => (k105 p k hp).1) q 16 (by omega), (fun p k hp => (k89 p k hp).1) q 16 (by omega), (fun p k hp => (k73 p k hp).1) q 16 (by omega), (fun p k hp => (k57 p k hp).1) q 16 (by omega), (fun p k hp => (k41 p k hp).1) q 16 (by omega), (fun p k hp => (k25 p k hp).1) q 16 (by omega), (fun p k hp => (k9 p k hp).1) q 16 (by omega)]; exact h0 16
  · rw [← w212, yi_u_ne _ _ (by omega), ← w207, yi_u_ne _ _ (by omega), (fun p k hp => (k201 p k hp).1) q 17 (by omega), (fun p k hp => (k185 p k hp).1) q 17 (by omega), (fun p k hp => (k169 p k hp).1) q 17 (by omega), (fun p k hp => (k153 p k hp).1) q 17 (by omega), (fun p k hp => (k137 p k hp).1) q 17 (by omega), (fun p k hp => (k121 p k hp).1) q 17 (by omega), (fun p k hp => (k105 p k hp).1) q 17 (by omega), (fun p k hp => (k89 p k hp).1) q 17 (by omega), (fun p k hp => (k73 p k hp).1) q 17 (by omega), (fun p k hp => (k57 p k hp).1) q 17 (by omega), (fun p k hp => (k41 p k hp).1) q 17 (by omega), (fun p k hp => (k25 p k hp).1) q 17 (by omega), (fun p k hp => (k9 p k hp).1) q 17 (by omega)]; exact h0 17
  · rw [← w212, yi_u_ne _ _ (by omega), ← w207, yi_u_ne _ _ (by omega), (fun p k hp => (k201 p k hp).1) q 18 (by omega), (fun p k hp => (k185 p k hp).1) q 18 (by omega), (fun p k hp => (k169 p k hp).1) q 18 (by omega), (fun p k hp => (k153 p k hp).1) q 18 (by omega), (fun p k hp => (k137 p k hp).1) q 18 (by omega), (fun p k hp => (k121 p k hp).1) q 18 (by omega), (fun p k hp => (k105 p k hp).1) q 18 (by omega), (fun p k hp => (k89 p k hp).1) q 18 (by omega), (fun p k hp => (k73 p k hp).1) q 18 (by omega), (fun p k hp => (k57 p k hp).1) q 18 (by omega), (fun p k hp => (k41 p k hp).1) q 18 (by omega), (fun p k hp => (k25 p k hp).1) q 18 (by omega), (fun p k hp => (k9 p k hp).1) q 18 (by omega)]; exact h0 18
  · rw [← w212, yi_u_ne _ _ (by omega), ← w207, yi_u_ne _ _ (by omega), (fun p k hp => (k201 p k hp).1) q 19 (by omega), (fun p k hp => (k185 p k hp).1) q 19 (by omega), (fun p k hp => (k169 p k hp).1) q 19 (by omega), (fun p k hp => (k153 p k hp).1) q 19 (by omega), (fun p k hp => (k137 p k hp).1) q 19 (by omega), (fun p k hp => (k121 p k hp).1) q 19 (by omega), (fun p k hp => (k105 p k hp).1) q 19 (by omega), (fun p k hp => (k89 p k hp).1) q 19 (by omega), (fun p k hp => (k73 p k hp).1) q 19 (by omega), (fun p k hp => (k57 p k hp).1) q 19 (by omega), (fun p k hp => (k41 p k hp).1) q 19 (by omega), (fun p k hp => (k25 p k hp).1) q 19 (by omega), (fun p k hp => (k9 p k hp).1) q 19 (by omega)]; exact h0 19
theorem p_land {d : Nat} {I L : Nat → Nat → Int} {R : Nat → Nat → Option Nat} {Y : (Nat → Nat) × (Nat → Nat) × Nat} {s : Nat → Int} {n : Nat} (hX : cs_S R Y ∧ True) (hR : R 10 0 = some 11 ∧ R 10 1 = some 12) (hY : 109 ≤ Y.2.2) (hn : n ≤ 1000) (h5 : I 12 5 = (n : Int)) (hs : ∀ i, i < n → I 13 i = s i) (hb : ∀ i, i < n → 0 ≤ s i ∧ s i ≤ 127) (hk : ∀ j : Nat, j < 29 → sp_WR (L 17 j) (sp_W37.getD j 0)) (hw18 : L 18 0 = 72564293 ∧ L 18 1 = 1265842 ∧ L 18 2 = 671108) : yi_P zi_Ms d 162 [.inr (.inr (some 10))] (I, L, R, Y) (fun r => ∃ f H n' m', r = (some (.inl f), H, n', m') ∧ sp_R (tk_Ks s n) (tk_Ps s n) (tk_Vs s n) (0, 0, 0, [], sp_ld0, sp_nm0, []) (.inr f)) := by
  refine yi_P_of (M := zi_m162) rfl (fun d k => ?_)
  show yi_D zi_Ms d zi_m162 k (0, [(0, .inr (.inr (some 10)))], [], (I, L, R, Y), 0, 0) _
  refine yi_D_run 1 (1, [(0, .inr (.inr (some 10)))], [.inr (.inr (some 10))], (I, L, R, Y), 0, 0) (fun _ => rfl) ?_
  refine yi_D_gr (v := some 12) rfl rfl rfl hR.2 (fun _ => ?_)
  refine yi_D_callv rfl (p_cut hX hn h5 hs hb hk hw18) ?_
  rintro _ ⟨I1, L2, rfl, hT3, h4, fI5, fL6⟩
  show yi_D zi_Ms d zi_m162 k (7, [(0, .inr (.inr (some 10)))], [], (I1, L2, R, Y), 0, 0) _
  refine yi_D_new rfl (fun q7 I8 L9 R10 Y11 m12 mk13 => ?_)
  obtain ⟨k14, k15, k16, k17, k18, k19⟩ := mk13
  refine yi_D_run 1 (11, [(0, .inr (.inr (some 10)))], [.inr (.inr (some q7)), .inr (.inr (some q7))], (I8, L9, R10, Y11), (0 + 1), m12) (fun _ => rfl) ?_
  refine yi_D_callp rfl rfl (p_initLand (by omega) k19 k16) ?_
  rintro _ ⟨I20, L21, R22, Y23, n24, m25, rfl, hN26, f27, f28, f29, f30, f31⟩
  show yi_D zi_Ms d zi_m162 k (14, [(0, .inr (.inr (some 10)))], [.inr (.inr (some q7))], (I20, L21, R22, Y23), ((0 + 1) + n24), (m12 + m25)) _
  refine yi_D_run 2 (16, [(1, .inr (.inr (some q7))), (0, .inr (.inr (some 10)))], [.inr (.inr (some 10))], (I20, L21, R22, Y23), ((0 + 1) + n24), (m12 + m25)) (fun _ => rfl) ?_
  refine yi_D_gr (v := some 11) rfl rfl rfl (by rw [f29 10 0 (by omega), (k15 10 0 (by omega)).2.2]; exact hR.1) (fun _ => ?_)
  refine yi_D_run 1 (20, [(1, .inr (.inr (some q7))), (0, .inr (.inr (some 10)))], [.inr (.inr (some q7)), .inr (.inr (some 11))], (I20, L21, R22, Y23), ((0 + 1) + n24), (m12 + m25)) (fun _ => rfl) ?_
  have hS3 : cs_S R22 Y23 := by
    have r : ∀ p k, p < 20 → R22 p k = R p k := fun p k hp => by rw [f29 p k (by omega), (k15 p k (by omega)).2.2]
    have y : ∀ p, p < 20 → Y23.2.1 p = Y.2.1 p := fun p hp => by rw [(f31 p (by omega)).1, (k17 p (by omega)).2]
    unfold cs_S
    rw [r 11 0 (by omega), r 11 1 (by omega), r 11 2 (by omega), r 12 0 (by omega), r 12 1 (by omega), r 12 2 (by omega), r 12 3 (by omega), r 12 4 (by omega), y 13 (by omega), y 14 (by omega), y 15 (by omega), y 16 (by omega), y 17 (by omega), y 18 (by omega), y 19 (by omega)]
    exact hX.1
  have hT3 : cs_T I20 L21 (tk_Ks s n) (tk_Ps s n) (tk_Vs s n) (tk_te s n) := by
    have e1 : ∀ p k, p < 20 → I20 p k = I1 p k := fun p k hp => by rw [f27 p k (by omega), (k15 p k (by omega)).1]
    have e2 : ∀ p k, p < 20 → L21 p k = L2 p k := fun p k hp => by rw [f28 p k (by omega), (k15 p k (by omega)).2.1]
    obtain ⟨a1, a2, a3, a4⟩ := hT3
    refine ⟨a1, by rw [e1 12 6 (by omega)]; exact a2, fun i hi => ?_, by rw [e2 18 0 (by omega), e2 18 1 (by omega), e2 18 2 (by omega)]; exact a4⟩
    rw [e1 14 i (by omega), e1 15 i (by omega), e2 16 i (by omega)]
    exact a3 i hi
  refine yi_D_callv rfl (p_readLand ⟨hS3, hT3⟩ hN26) ?_
  rintro _ ⟨I32, L33, R34, Y35, n36, m37, f38, rfl, hB39, hsp40, hz41⟩
  show yi_D zi_Ms d zi_m162 k (23, [(1, .inr (.inr (some q7))), (0, .inr (.inr (some 10)))], [.inl f38], (I32, L33, R34, Y35), (((0 + 1) + n24) + n36), ((m12 + m25) + m37)) _
  refine yi_D_run 2 (25, [(2, .inl f38), (1, .inr (.inr (some q7))), (0, .inr (.inr (some 10)))], [.inl f38], (I32, L33, R34, Y35), (((0 + 1) + n24) + n36), ((m12 + m25) + m37)) (fun _ => rfl) ?_
  by_cases h42 : f38 = 0
  · refine yi_D_if1 true rfl (yi_eq_t h42) ?_
    refine yi_D_run 2 (32, [(2, .inl f38), (1, .inr (.inr (some q7))), (0, .inr (.inr (some 10)))], [.inr (.inr (some q7)), .inr (.inr (some 10))], (I32, L33, R34, Y35), (((0 + 1) + n24) + n36), ((m12 + m25) + m37)) (fun _ => rfl) ?_
    refine yi_D_pr rfl (fun R43 pr44 pr45 => ?_)
    refine yi_D_run 1 (36, [(2, .inl f38), (1, .inr (.inr (some q7))), (0, .inr (.inr (some 10)))], [.inr (.inr (some 10))], (I32, L33, R43, Y35), (((0 + 1) + n24) + n36), ((m12 + m25) + m37)) (fun _ => rfl) ?_
    refine yi_D_gr (v := R43 10 2) rfl rfl rfl rfl (fun _ => ?_)
    refine yi_D_run 2 (41, [(2, .inl f38), (1, .inr (.inr (some q7))), (0, .inr (.inr (some 10)))], [.inr (.inr (some 10)), .inr (.inr (some q7)), .inr (.inr (R43 10 2))], (I32, L33, R43, Y35), (((0 + 1) + n24) + n36), ((m12 + m25) + m37)) (fun _ => rfl) ?_
    refine yi_D_gr (v := R43 10 0) rfl rfl rfl rfl (fun _ => ?_)
    refine yi_D_gru rfl rfl rfl (fun w46 => ?_)
    refine yi_D_callv rfl (yi_P_void (M := zi_m303) rfl rfl) ?_
    rintro _ ⟨I47, L48, R49, Y50, n51, m52, rfl⟩
    show yi_D zi_Ms d zi_m162 k (50, [(2, .inl f38), (1, .inr (.inr (some q7))), (0, .inr (.inr (some 10)))], [], (I47, L48, R49, Y50), ((((0 + 1) + n24) + n36) + n51), (((m12 + m25) + m37) + m52)) _
    refine yi_D_run 1 (51, [(2, .inl f38), (1, .inr (.inr (some q7))), (0, .inr (.inr (some 10)))], [.inr (.inr (some 10))], (I47, L48, R49, Y50), ((((0 + 1) + n24) + n36) + n51), (((m12 + m25) + m37) + m52)) (fun _ => rfl) ?_
    refine yi_D_gr (v := R49 10 6) rfl rfl rfl rfl (fun _ => ?_)
    refine yi_D_run 1 (55, [(2, .inl f38), (1, .inr (.inr (some q7))), (0, .inr (.inr (some 10)))], [.inr (.inr (some q7)), .inr (.inr (R49 10 6))], (I47, L48, R49, Y50), ((((0 + 1) + n24) + n36) + n51), (((m12 + m25) + m37) + m52)) (fun _ => rfl) ?_
    refine yi_D_callv rfl (yi_P_void (M := zi_m277) rfl rfl) ?_
    rintro _ ⟨I53, L54, R55, Y56, n57, m58, rfl⟩
    show yi_D zi_Ms d zi_m162 k (58, [(2, .inl f38), (1, .inr (.inr (some q7))), (0, .inr (.inr (some 10)))], [], (I53, L54, R55, Y56), (((((0 + 1) + n24) + n36) + n51) + n57), ((((m12 + m25) + m37) + m52) + m58)) _
    refine yi_D_run 1 (59, [(2, .inl f38), (1, .inr (.inr (some q7))), (0, .inr (.inr (some 10)))], [.inr (.inr (some 10))], (I53, L54, R55, Y56), (((((0 + 1) + n24) + n36) + n51) + n57), ((((m12 + m25) + m37) + m52) + m58)) (fun _ => rfl) ?_
    refine yi_D_callv rfl (yi_P_void (M := zi_m152) rfl rfl) ?_
    rintro _ ⟨I59, L60, R61, Y62, n63, m64, rfl⟩
    show yi_D zi_Ms d zi_m162 k (62, [(2, .inl f38), (1, .inr (.inr (some q7))), (0, .inr (.inr (some 10)))], [], (I59, L60, R61, Y62), ((((((0 + 1) + n24) + n36) + n51) + n57) + n63), (((((m12 + m25) + m37) + m52) + m58) + m64)) _
    refine yi_D_run 2 (64, [(3, .inl 0), (2, .inl f38), (1, .inr (.inr (some q7))), (0, .inr (.inr (some 10)))], [], (I59, L60, R61, Y62), ((((((0 + 1) + n24) + n36) + n51) + n57) + n63), (((((m12 + m25) + m37) + m52) + m58) + m64)) (fun _ => rfl) ?_
    have pt64 : ∀ j64, j64 ≤ k → ∀ (y3 : Int) (J1 : Nat → Nat → Int) (G1 : Nat → Nat → Int) (R1 : Nat → Nat → Option Nat) (Y1 : (Nat → Nat) × (Nat → Nat) × Nat) (n1 : Nat) (m1 : Nat), yi_D zi_Ms d zi_m162 j64 (64, [(3, .inl y3), (2, .inl f38), (1, .inr (.inr (some q7))), (0, .inr (.inr (some 10)))], [], (J1, G1, R1, Y1), n1, m1) (fun r => ∃ f H n' m', r = (some (.inl f), H, n', m') ∧ sp_R (tk_Ks s n) (tk_Ps s n) (tk_Vs s n) (0, 0, 0, [], sp_ld0, sp_nm0, []) (.inr f)) := by
      intro j64
      induction j64 with
      | zero => intros; exact yi_D_0
      | succ j64 ih64 =>
      intro hk64 y3 J1 G1 R1 Y1 n1 m1 
      refine yi_D_run1 1 (66, [(3, .inl y3), (2, .inl f38), (1, .inr (.inr (some q7))), (0, .inr (.inr (some 10)))], [.inr (.inr (some 10)), .inl y3], (J1, G1, R1, Y1), n1, m1) (fun _ => rfl) ?_
      refine yi_D_gr (v := R1 10 8) rfl rfl rfl rfl (fun _ => ?_)
      refine yi_D_lenu rfl (fun v65 => ?_)
      by_cases h66 : v65 ≤ y3
      · refine yi_D_if2 true rfl (yi_ge_t h66) ?_
        refine yi_D_run 1 (87, [(3, .inl y3), (2, .inl f38), (1, .inr (.inr (some q7))), (0, .inr (.inr (some 10)))], [.inr (.inr (some 10))], (J1, G1, R1, Y1), n1, m1) (fun _ => rfl) ?_
        refine yi_D_callv rfl (yi_P_void (M := zi_m169) rfl rfl) ?_
        rintro _ ⟨I67, L68, R69, Y70, n71, m72, rfl⟩
        show yi_D zi_Ms d zi_m162 j64 (90, [(3, .inl y3), (2, .inl f38), (1, .inr (.inr (some q7))), (0, .inr (.inr (some 10)))], [], (I67, L68, R69, Y70), (n1 + n71), (m1 + m72)) _
        refine yi_D_run 1 (91, [(3, .inl y3), (2, .inl f38), (1, .inr (.inr (some q7))), (0, .inr (.inr (some 10)))], [.inl 0], (I67, L68, R69, Y70), (n1 + n71), (m1 + m72)) (fun _ => rfl) ?_
        refine yi_D_reti rfl ?_
        exact ⟨_, _, _, _, rfl, (show f38 = 0 by omega) ▸ hsp40⟩
      · refine yi_D_if2 false rfl (yi_ge_f h66) ?_
        refine yi_D_run 1 (74, [(3, .inl y3), (2, .inl f38), (1, .inr (.inr (some q7))), (0, .inr (.inr (some 10)))], [.inr (.inr (some 10))], (J1, G1, R1, Y1), n1, m1) (fun _ => rfl) ?_
        refine yi_D_gr (v := R1 10 8) rfl rfl rfl rfl (fun _ => ?_)
        refine yi_D_run 2 (79, [(3, .inl y3), (2, .inl f38), (1, .inr (.inr (some q7))), (0, .inr (.inr (some 10)))], [.inr (.inr none), .inl y3, .inr (.inr (R1 10 8))], (J1, G1, R1, Y1), n1, m1) (fun _ => rfl) ?_
        refine yi_D_aasu rfl (fun R73 => ?_)
        refine yi_D_iinc [(3, .inl (yi_w (y3 + 1))), (2, .inl f38), (1, .inr (.inr (some q7))), (0, .inr (.inr (some 10)))] rfl rfl rfl rfl ?_
        refine yi_D_run 1 (64, [(3, .inl (yi_w (y3 + 1))), (2, .inl f38), (1, .inr (.inr (some q7))), (0, .inr (.inr (some 10)))], [], (J1, G1, R73, Y1), n1, m1) (fun _ => rfl) ?_
        exact yi_D_mono (ih64 (by omega) (yi_w (y3 + 1)) J1 G1 R73 Y1 n1 m1 ) (by omega)
    exact pt64 k (Nat.le_refl _) 0 I59 L60 R61 Y62 ((((((0 + 1) + n24) + n36) + n51) + n57) + n63) (((((m12 + m25) + m37) + m52) + m58) + m64) 
  · refine yi_D_if1 false rfl (yi_eq_f h42) ?_
    refine yi_D_run 1 (29, [(2, .inl f38), (1, .inr (.inr (some q7))), (0, .inr (.inr (some 10)))], [.inl f38], (I32, L33, R34, Y35), (((0 + 1) + n24) + n36), ((m12 + m25) + m37)) (fun _ => rfl) ?_
    refine yi_D_reti rfl ?_
    exact ⟨_, _, _, _, rfl, hsp40⟩
