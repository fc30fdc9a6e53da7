/-! Rules by kinds of instruction; the check's own object and its rows. -/
def yi_u (f : Nat → Nat → Int) (p k : Nat) (z : Int) : Nat → Nat → Int := fun p' k' => if p' = p ∧ k' = k then z else f p' k'
theorem yi_u_eq (f : Nat → Nat → Int) (p k : Nat) (z : Int) : yi_u f p k z p k = z := if_pos ⟨rfl, rfl⟩
theorem yi_u_ne (f : Nat → Nat → Int) {p k : Nat} (z : Int) {p' k' : Nat} (h : ¬ (p' = p ∧ k' = k)) : yi_u f p k z p' k' = f p' k' := if_neg h
section YG
variable {Ms : List zi_M} {d : Nat} {M : zi_M} {Q : yi_R → Prop} {pc n : Nat} {al : List (Nat × yi_V)} {st : List yi_V} {H : yi_H} {nc ns : Nat}
theorem yi_G_get {j ci k : Nat} {o : List Nat} (g : yi_F) (h1 : zi_lk2 pc M.2.2.2.2.1 = some (.getfield j, n, ci :: k :: o)) (h2 : yi_get pc n al st H nc ns ci k = some (.inl g)) (hg : yi_G Ms d M g Q) : yi_G Ms d M (pc, al, st, H, nc, ns) Q := yi_G_s g h1 (fun _ => h2) hg
theorem yi_G_put {j ci k : Nat} {o : List Nat} (g : yi_F) (h1 : zi_lk2 pc M.2.2.2.2.1 = some (.putfield j, n, ci :: k :: o)) (h2 : yi_put pc n al st H nc ns ci k = some (.inl g)) (hg : yi_G Ms d M g Q) : yi_G Ms d M (pc, al, st, H, nc, ns) Q := yi_G_s g h1 (fun _ => h2) hg
theorem yi_G_iald {o : List Nat} (g : yi_F) (h1 : zi_lk2 pc M.2.2.2.2.1 = some (.iaload, n, o)) (h2 : yi_ald pc n al st H nc ns 0 [] = some (.inl g)) (hg : yi_G Ms d M g Q) : yi_G Ms d M (pc, al, st, H, nc, ns) Q := yi_G_s g h1 (fun _ => h2) hg
theorem yi_G_lald {o : List Nat} (g : yi_F) (h1 : zi_lk2 pc M.2.2.2.2.1 = some (.laload, n, o)) (h2 : yi_ald pc n al st H nc ns 1 [] = some (.inl g)) (hg : yi_G Ms d M g Q) : yi_G Ms d M (pc, al, st, H, nc, ns) Q := yi_G_s g h1 (fun _ => h2) hg
theorem yi_G_bald {o : List Nat} (g : yi_F) (h1 : zi_lk2 pc M.2.2.2.2.1 = some (.baload, n, o)) (h2 : yi_ald pc n al st H nc ns 2 [] = some (.inl g)) (hg : yi_G Ms d M g Q) : yi_G Ms d M (pc, al, st, H, nc, ns) Q := yi_G_s g h1 (fun _ => h2) hg
theorem yi_G_cald {o : List Nat} (g : yi_F) (h1 : zi_lk2 pc M.2.2.2.2.1 = some (.caload, n, o)) (h2 : yi_ald pc n al st H nc ns 3 [] = some (.inl g)) (hg : yi_G Ms d M g Q) : yi_G Ms d M (pc, al, st, H, nc, ns) Q := yi_G_s g h1 (fun _ => h2) hg
theorem yi_G_aald {o : List Nat} (g : yi_F) (h1 : zi_lk2 pc M.2.2.2.2.1 = some (.aaload, n, o)) (h2 : yi_ald pc n al st H nc ns 7 [] = some (.inl g)) (hg : yi_G Ms d M g Q) : yi_G Ms d M (pc, al, st, H, nc, ns) Q := yi_G_s g h1 (fun _ => h2) hg
theorem yi_G_iast {o : List Nat} (g : yi_F) (h1 : zi_lk2 pc M.2.2.2.2.1 = some (.iastore, n, o)) (h2 : yi_ast pc n al st H nc ns 0 = some (.inl g)) (hg : yi_G Ms d M g Q) : yi_G Ms d M (pc, al, st, H, nc, ns) Q := yi_G_s g h1 (fun _ => h2) hg
theorem yi_G_last {o : List Nat} (g : yi_F) (h1 : zi_lk2 pc M.2.2.2.2.1 = some (.lastore, n, o)) (h2 : yi_ast pc n al st H nc ns 1 = some (.inl g)) (hg : yi_G Ms d M g Q) : yi_G Ms d M (pc, al, st, H, nc, ns) Q := yi_G_s g h1 (fun _ => h2) hg
theorem yi_G_bast {o : List Nat} (g : yi_F) (h1 : zi_lk2 pc M.2.2.2.2.1 = some (.bastore, n, o)) (h2 : yi_ast pc n al st H nc ns 2 = some (.inl g)) (hg : yi_G Ms d M g Q) : yi_G Ms d M (pc, al, st, H, nc, ns) Q := yi_G_s g h1 (fun _ => h2) hg
/-- a compare with 0, of two; both ways -/
theorem yi_G_if1 {c : ClassFile.Cond} {off : Int} {t : Nat} {o : List Nat} {z : Int} {r : List yi_V} (q : Bool) (h1 : zi_lk2 pc M.2.2.2.2.1 = some (.ifCond c off, n, t :: o)) (h2 : yi_cmp c z 0 = q) (hg : yi_G Ms d M (bif q then t else pc + n, al, r, H, nc, ns) Q) : yi_G Ms d M (pc, al, .inl z :: r, H, nc, ns) Q := yi_G_s _ h1 (fun _ => by
  show ((some (.inl (bif yi_cmp c z 0 then t else pc + n, al, r, H, nc, ns))) : yi_O) = _
  rw [h2]) hg
theorem yi_G_if2 {c : ClassFile.Cond} {off : Int} {t : Nat} {o : List Nat} {z w : Int} {r : List yi_V} (q : Bool) (h1 : zi_lk2 pc M.2.2.2.2.1 = some (.if_icmp c off, n, t :: o)) (h2 : yi_cmp c z w = q) (hg : yi_G Ms d M (bif q then t else pc + n, al, r, H, nc, ns) Q) : yi_G Ms d M (pc, al, .inl w :: .inl z :: r, H, nc, ns) Q := yi_G_s _ h1 (fun _ => by
  show ((some (.inl (bif yi_cmp c z w then t else pc + n, al, r, H, nc, ns))) : yi_O) = _
  rw [h2]) hg
/-- int arithmetic without a wrap -/
theorem yi_G_iadd {o : List Nat} {x y : Int} {r : List yi_V} (h1 : zi_lk2 pc M.2.2.2.2.1 = some (.iadd, n, o)) (v : Int) (hv : yi_w (x + y) = v) (hg : yi_G Ms d M (pc + n, al, .inl v :: r, H, nc, ns) Q) : yi_G Ms d M (pc, al, .inl y :: .inl x :: r, H, nc, ns) Q := yi_G_s _ h1 (fun _ => by rw [← hv]; rfl) hg
theorem yi_G_isub {o : List Nat} {x y : Int} {r : List yi_V} (h1 : zi_lk2 pc M.2.2.2.2.1 = some (.isub, n, o)) (v : Int) (hv : yi_w (x - y) = v) (hg : yi_G Ms d M (pc + n, al, .inl v :: r, H, nc, ns) Q) : yi_G Ms d M (pc, al, .inl y :: .inl x :: r, H, nc, ns) Q := yi_G_s _ h1 (fun _ => by rw [← hv]; rfl) hg
theorem yi_G_imul {o : List Nat} {x y : Int} {r : List yi_V} (h1 : zi_lk2 pc M.2.2.2.2.1 = some (.imul, n, o)) (v : Int) (hv : yi_w (x * y) = v) (hg : yi_G Ms d M (pc + n, al, .inl v :: r, H, nc, ns) Q) : yi_G Ms d M (pc, al, .inl y :: .inl x :: r, H, nc, ns) Q := yi_G_s _ h1 (fun _ => by rw [← hv]; rfl) hg
theorem yi_G_idiv {o : List Nat} {x y : Int} {r : List yi_V} (h1 : zi_lk2 pc M.2.2.2.2.1 = some (.idiv, n, o)) (hy : ¬ y = 0) (v : Int) (hv : yi_w (x.tdiv y) = v) (hg : yi_G Ms d M (pc + n, al, .inl v :: r, H, nc, ns) Q) : yi_G Ms d M (pc, al, .inl y :: .inl x :: r, H, nc, ns) Q := yi_G_s _ h1 (fun _ => by
  show (((bif decide (y = 0) then none else some (.inl (pc + n, al, .inl (yi_w (x.tdiv y)) :: r, H, nc, ns)))) : yi_O) = _
  rw [decide_eq_false hy, hv]
  rfl) hg
theorem yi_G_irem {o : List Nat} {x y : Int} {r : List yi_V} (h1 : zi_lk2 pc M.2.2.2.2.1 = some (.irem, n, o)) (hy : ¬ y = 0) (v : Int) (hv : x.tmod y = v) (hg : yi_G Ms d M (pc + n, al, .inl v :: r, H, nc, ns) Q) : yi_G Ms d M (pc, al, .inl y :: .inl x :: r, H, nc, ns) Q := yi_G_s _ h1 (fun _ => by
  show (((bif decide (y = 0) then none else some (.inl (pc + n, al, .inl (x.tmod y) :: r, H, nc, ns)))) : yi_O) = _
  rw [decide_eq_false hy, hv]
  rfl) hg
theorem yi_G_iinc {o : List Nat} {i : Nat} {k z : Int} (al' : List (Nat × yi_V)) (h1 : zi_lk2 pc M.2.2.2.2.1 = some (.iinc i k, n, o)) (hz : yi_loc al i = some (.inl z)) (hn : Nat.ble (i + 1) M.2.2.1 = true) (hv : (i, .inl (yi_w (z + k))) :: yi_del1 i al = al') (hg : yi_G Ms d M (pc + n, al', st, H, nc, ns) Q) : yi_G Ms d M (pc, al, st, H, nc, ns) Q := yi_G_s _ h1 (fun _ => by
  show (((match yi_loc al i with | some (.inl x) => bif Nat.ble (i + 1) M.2.2.1 then some (.inl (pc + n, (i, .inl (yi_w (x + k))) :: yi_del1 i al, st, H, nc, ns)) else none | _ => none)) : yi_O) = _
  rw [hz]
  dsimp only
  rw [hn, hv]
  rfl) hg
end YG
theorem yi_wn {z : Int} (h0 : -2147483648 ≤ z) (h1 : z < 2147483648) : yi_w z = z := by
  unfold yi_w
  omega
abbrev ym_X : Type := (Nat → Nat → Option Nat) × (Nat → Nat) × (Nat → Nat) × Nat
/-- the check's rows: field, place, type, length -/
def ym_T : List (Nat × Nat × Nat × Nat) := [(1, 83, 0, 1000), (4, 84, 0, 1002), (5, 85, 0, 1002), (6, 86, 1, 1002), (9, 87, 1, 32), (10, 88, 0, 100), (11, 89, 0, 2200), (12, 90, 0, 2200), (14, 91, 1, 13), (15, 92, 1, 13), (16, 93, 0, 13), (17, 94, 0, 13), (21, 95, 0, 3), (22, 96, 0, 1100), (23, 97, 1, 159744), (26, 98, 0, 25), (27, 99, 0, 24), (29, 100, 0, 2310), (31, 101, 2, 5), (32, 102, 2, 5), (36, 103, 0, 96), (38, 104, 0, 2), (39, 105, 0, 30), (41, 106, 0, 20), (42, 107, 2, 4), (44, 108, 0, 5)]
def ym_S (X : ym_X) : Prop := X.2.1 82 = 11 ∧ ∀ q ∈ ym_T, X.1 82 q.1 = some q.2.1 ∧ X.2.1 q.2.1 = 20 + q.2.2.1 ∧ X.2.2.1 q.2.1 = q.2.2.2
theorem ym_S_at {X : ym_X} (h : ym_S X) {j k p t m : Nat} (hq : ym_T[j]? = some (k, p, t, m)) : X.1 82 k = some p ∧ X.2.1 p = 20 + t ∧ X.2.2.1 p = m := h.2 _ (List.mem_of_getElem? hq)
theorem ym_pl {j k p t m : Nat} (hq : ym_T[j]? = some (k, p, t, m)) : 10 ≤ p ∧ t ≤ 2 := by
  have h : ∀ q ∈ ym_T, 10 ≤ q.2.1 ∧ q.2.2.1 ≤ 2 := by decide
  exact h _ (List.mem_of_getElem? hq)
section YMM
variable {pc n : Nat} {al : List (Nat × yi_V)} {rest : List yi_V} {I L : Nat → Nat → Int} {X : ym_X} {nc ns : Nat}
theorem ym_gi (hS : ym_S X) {k : Nat} (hk : yi_tk (zi_ty 11 k) = 0) (hl : Nat.ble (k + 1) (zi_Fs.getD 11 ("", [])).2.length = true) {v : Int} (hv : I 82 k = v) : yi_get pc n al (.inr (.inr (some 82)) :: rest) (I, L, X) nc ns 11 k = some (.inl (pc + n, al, .inl v :: rest, (I, L, X), nc, ns)) := by
  show (((bif Nat.beq (X.2.1 82) 11 && Nat.ble (k + 1) (zi_Fs.getD 11 ("", [])).2.length && true then some (.inl (pc + n, al, yi_rd (I, L, X) (yi_tk (zi_ty 11 k)) 82 k :: rest, (I, L, X), nc, ns)) else none)) : yi_O) = _
  rw [hS.1, hl, hk, ← hv]
  rfl
theorem ym_gl (hS : ym_S X) {k : Nat} (hk : yi_tk (zi_ty 11 k) = 1) (hl : Nat.ble (k + 1) (zi_Fs.getD 11 ("", [])).2.length = true) {v : Int} (hv : L 82 k = v) : yi_get pc n al (.inr (.inr (some 82)) :: rest) (I, L, X) nc ns 11 k = some (.inl (pc + n, al, .inr (.inl v) :: rest, (I, L, X), nc, ns)) := by
  show (((bif Nat.beq (X.2.1 82) 11 && Nat.ble (k + 1) (zi_Fs.getD 11 ("", [])).2.length && true then some (.inl (pc + n, al, yi_rd (I, L, X) (yi_tk (zi_ty 11 k)) 82 k :: rest, (I, L, X), nc, ns)) else none)) : yi_O) = _
  rw [hS.1, hl, hk, ← hv]
  rfl
theorem ym_gr (hS : ym_S X) (j : Nat) {k p t m : Nat} (hq : ym_T[j]? = some (k, p, t, m)) (hk : yi_tk (zi_ty 11 k) = 2) (hl : Nat.ble (k + 1) (zi_Fs.getD 11 ("", [])).2.length = true) : yi_get pc n al (.inr (.inr (some 82)) :: rest) (I, L, X) nc ns 11 k = some (.inl (pc + n, al, .inr (.inr (some p)) :: rest, (I, L, X), nc, ns)) := by
  show (((bif Nat.beq (X.2.1 82) 11 && Nat.ble (k + 1) (zi_Fs.getD 11 ("", [])).2.length && true then some (.inl (pc + n, al, yi_rd (I, L, X) (yi_tk (zi_ty 11 k)) 82 k :: rest, (I, L, X), nc, ns)) else none)) : yi_O) = _
  rw [hS.1, hl, hk]
  show ((some (Sum.inl (pc + n, al, Sum.inr (Sum.inr (X.1 82 k)) :: rest, (I, L, X), nc, ns))) : yi_O) = _
  rw [(ym_S_at hS hq).1]
theorem ym_pi (hS : ym_S X) {k : Nat} {z : Int} (hf : yi_fit (zi_ty 11 k) (.inl z) = true) (hl : Nat.ble (k + 1) (zi_Fs.getD 11 ("", [])).2.length = true) : yi_put pc n al (.inl z :: .inr (.inr (some 82)) :: rest) (I, L, X) nc ns 11 k = some (.inl (pc + n, al, rest, (yi_u I 82 k z, L, X), nc, ns)) := by
  show (((bif true && (Nat.beq (X.2.1 82) 11 && Nat.ble (k + 1) (zi_Fs.getD 11 ("", [])).2.length && true && yi_fit (zi_ty 11 k) (.inl z)) then some (.inl (pc + n, al, rest, (yi_u I 82 k z, L, X), nc, ns)) else none)) : yi_O) = _
  rw [hS.1, hl, hf]
  rfl
theorem ym_plg (hS : ym_S X) {k : Nat} {z : Int} (hf : yi_fit (zi_ty 11 k) (.inr (.inl z)) = true) (hl : Nat.ble (k + 1) (zi_Fs.getD 11 ("", [])).2.length = true) : yi_put pc n al (.inr (.inl z) :: .inr (.inr (some 82)) :: rest) (I, L, X) nc ns 11 k = some (.inl (pc + n, al, rest, (I, yi_u L 82 k z, X), nc, ns)) := by
  show (((bif true && (Nat.beq (X.2.1 82) 11 && Nat.ble (k + 1) (zi_Fs.getD 11 ("", [])).2.length && true && yi_fit (zi_ty 11 k) (.inr (.inl z))) then some (.inl (pc + n, al, rest, (I, yi_u L 82 k z, X), nc, ns)) else none)) : yi_O) = _
  rw [hS.1, hl, hf]
  rfl
theorem ym_ld (hS : ym_S X) (j : Nat) {k p t m : Nat} (hq : ym_T[j]? = some (k, p, t, m)) {x : Int} (h0 : 0 ≤ x) (h1 : x < m) : yi_ald pc n al (.inl x :: .inr (.inr (some p)) :: rest) (I, L, X) nc ns t [] = some (.inl (pc + n, al, yi_rd (I, L, X) (zi_tk t) p x.toNat :: rest, (I, L, X), nc, ns)) := by
  obtain ⟨-, e2, e3⟩ := ym_S_at hS hq
  obtain ⟨p0, p1⟩ := ym_pl hq
  unfold yi_ald
  dsimp only
  rw [Nat.ble_eq_true_of_le p0, e2, e3, Nat.beq_refl, Nat.ble_eq_true_of_le (show t ≤ 6 by omega), decide_eq_true h0, decide_eq_true h1]
  rfl
theorem ym_li (hS : ym_S X) (j : Nat) {k p m : Nat} (hq : ym_T[j]? = some (k, p, 0, m)) {x : Int} (h0 : 0 ≤ x) (h1 : x < m) {v : Int} (hv : I p x.toNat = v) : yi_ald pc n al (.inl x :: .inr (.inr (some p)) :: rest) (I, L, X) nc ns 0 [] = some (.inl (pc + n, al, .inl v :: rest, (I, L, X), nc, ns)) := by
  rw [ym_ld hS j hq h0 h1, ← hv]
  rfl
theorem ym_lb (hS : ym_S X) (j : Nat) {k p m : Nat} (hq : ym_T[j]? = some (k, p, 2, m)) {x : Int} (h0 : 0 ≤ x) (h1 : x < m) {v : Int} (hv : I p x.toNat = v) : yi_ald pc n al (.inl x :: .inr (.inr (some p)) :: rest) (I, L, X) nc ns 2 [] = some (.inl (pc + n, al, .inl v :: rest, (I, L, X), nc, ns)) := by
  rw [ym_ld hS j hq h0 h1, ← hv]
  rfl
theorem ym_ll (hS : ym_S X) (j : Nat) {k p m : Nat} (hq : ym_T[j]? = some (k, p, 1, m)) {x : Int} (h0 : 0 ≤ x) (h1 : x < m) {v : Int} (hv : L p x.toNat = v) : yi_ald pc n al (.inl x :: .inr (.inr (some p)) :: rest) (I, L, X) nc ns 1 [] = some (.inl (pc + n, al, .inr (.inl v) :: rest, (I, L, X), nc, ns)) := by
  rw [ym_ld hS j hq h0 h1, ← hv]
  rfl
theorem ym_si (hS : ym_S X) (j : Nat) {k p m : Nat} (hq : ym_T[j]? = some (k, p, 0, m)) {x z : Int} (h0 : 0 ≤ x) (h1 : x < m) : yi_ast pc n al (.inl z :: .inl x :: .inr (.inr (some p)) :: rest) (I, L, X) nc ns 0 = some (.inl (pc + n, al, rest, (yi_u I p x.toNat z, L, X), nc, ns)) := by
  obtain ⟨-, e2, e3⟩ := ym_S_at hS hq
  obtain ⟨p0, p1⟩ := ym_pl hq
  unfold yi_ast
  dsimp only
  rw [Nat.ble_eq_true_of_le p0, e2, e3, Nat.beq_refl, decide_eq_true h0, decide_eq_true h1]
  rfl
theorem ym_sb (hS : ym_S X) (j : Nat) {k p m : Nat} (hq : ym_T[j]? = some (k, p, 2, m)) {x z : Int} (h0 : 0 ≤ x) (h1 : x < m) (hz : z = 0 ∨ z = 1) : yi_ast pc n al (.inl z :: .inl x :: .inr (.inr (some p)) :: rest) (I, L, X) nc ns 2 = some (.inl (pc + n, al, rest, (yi_u I p x.toNat z, L, X), nc, ns)) := by
  obtain ⟨-, e2, e3⟩ := ym_S_at hS hq
  obtain ⟨p0, p1⟩ := ym_pl hq
  unfold yi_ast
  dsimp only
  have hf : yi_fit (zi_ft 2) (.inl z) = true := by
    rcases hz with rfl | rfl <;> rfl
  rw [Nat.ble_eq_true_of_le p0, e2, e3, Nat.beq_refl, decide_eq_true h0, decide_eq_true h1, hf]
  rfl
theorem ym_sl (hS : ym_S X) (j : Nat) {k p m : Nat} (hq : ym_T[j]? = some (k, p, 1, m)) {x z : Int} (h0 : 0 ≤ x) (h1 : x < m) : yi_ast pc n al (.inr (.inl z) :: .inl x :: .inr (.inr (some p)) :: rest) (I, L, X) nc ns 1 = some (.inl (pc + n, al, rest, (I, yi_u L p x.toNat z, X), nc, ns)) := by
  obtain ⟨-, e2, e3⟩ := ym_S_at hS hq
  obtain ⟨p0, p1⟩ := ym_pl hq
  unfold yi_ast
  dsimp only
  rw [Nat.ble_eq_true_of_le p0, e2, e3, Nat.beq_refl, decide_eq_true h0, decide_eq_true h1]
  rfl
end YMM
