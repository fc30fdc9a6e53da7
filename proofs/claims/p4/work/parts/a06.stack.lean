/-! Steps that touch the stack and the locals alone. -/
section ZS
variable {p : Program} {l : Launch} {e : Env} {R : Room} {s : State} {m : MethodId} {args : Array Value} {below : List Frame} {meth : Method} {c : Code} {B0 : Nat} {D : va_G} {dA : Nat → ClassId} {adK adV : Nat → Nat} {b nL : Nat}
variable {pc n : Nat} {al : List (Nat × zi_V)} {st : List zi_V} {A : List zi_C} {nc ns : Nat} {g : zi_F}
/-- a value comes onto the stack -/
theorem zi_go_ps {v : zi_V} {w : Value} (hw : ∀ ws, zi_vr (zi_ad adK adV b ws) v w) (row : ∀ (Q : State → Prop) (H : Heap) (locs : List Loc) (ls : Array Slot) (sc : List Value), zi_W p l e R s m args below meth c Q nc ns (pc + n) H locs ls (w :: sc) → zi_W p l e R s m args below meth c Q nc ns pc H locs ls sc) (h : zi_ps pc n al st A nc ns v = some (.inl g)) : zi_Go p l e R s m args below meth c B0 D dA adK adV b nL (pc, al, st, A, nc, ns) g := by
  cases h
  intro Q ws H locs ls sc hS _ _ kk
  obtain ⟨h1, h2, h3, h4, h5, h6⟩ := hS
  exact row Q H locs ls sc (kk ws H locs ls (w :: sc) (zi_ex_refl ws) ⟨h1, h2, h3, h4, h5, ⟨hw ws, h6⟩⟩)
/-- a local's value -/
theorem zi_go_ld {i k : Nat} (row : ∀ (Q : State → Prop) (H : Heap) (locs : List Loc) (ls : Array Slot) (sc : List Value) (w : Value), ls[i]? = some (.val w) → (k = 0 → ∃ x, w = .int x) → (k = 1 → ∃ x, w = .long x) → zi_W p l e R s m args below meth c Q nc ns (pc + n) H locs ls (w :: sc) → zi_W p l e R s m args below meth c Q nc ns pc H locs ls sc) (hk : k < 2) (h : zi_ld pc n al st A nc ns i k = some (.inl g)) : zi_Go p l e R s m args below meth c B0 D dA adK adV b nL (pc, al, st, A, nc, ns) g := by
  unfold zi_ld at h
  cases hv : zi_loc al i with
  | none => rw [hv] at h; cases h
  | some v =>
    rw [hv] at h
    dsimp only at h
    cases hb : Nat.beq (zi_kd v) k with
    | false => rw [hb] at h; cases h
    | true =>
      rw [hb] at h
      cases h
      have hb := Nat.eq_of_beq_eq_true hb
      intro Q ws H locs ls sc hS _ _ kk
      obtain ⟨h1, h2, h3, h4, ⟨lv, h5, h7⟩, h6⟩ := hS
      obtain ⟨j, w, hj, hw⟩ := zi_loc_get h7 hv
      exact row Q H locs ls sc w (lv_at h5 j hj) (fun e0 => zi_vr_int hw (hb.trans e0)) (fun e0 => zi_vr_long hw (hb.trans e0)) (kk ws H locs ls (w :: sc) (zi_ex_refl ws) ⟨h1, h2, h3, h4, ⟨lv, h5, h7⟩, ⟨hw, h6⟩⟩)
theorem zi_go_lda {i : Nat} (row : ∀ (Q : State → Prop) (H : Heap) (locs : List Loc) (ls : Array Slot) (sc : List Value) (w : Value), ls[i]? = some (.val w) → (w = .null ∨ ∃ a, w = .ref a) → zi_W p l e R s m args below meth c Q nc ns (pc + n) H locs ls (w :: sc) → zi_W p l e R s m args below meth c Q nc ns pc H locs ls sc) (h : zi_lda pc n al st A nc ns i = some (.inl g)) : zi_Go p l e R s m args below meth c B0 D dA adK adV b nL (pc, al, st, A, nc, ns) g := by
  unfold zi_lda at h
  cases hv : zi_loc al i with
  | none => rw [hv] at h; cases h
  | some v =>
    rw [hv] at h
    dsimp only at h
    cases hb : Nat.ble 2 (zi_kd v) with
    | false => rw [hb] at h; cases h
    | true =>
      rw [hb] at h
      cases h
      have hb := Nat.le_of_ble_eq_true hb
      intro Q ws H locs ls sc hS _ _ kk
      obtain ⟨h1, h2, h3, h4, ⟨lv, h5, h7⟩, h6⟩ := hS
      obtain ⟨j, w, hj, hw⟩ := zi_loc_get h7 hv
      exact row Q H locs ls sc w (lv_at h5 j hj) (zi_vr_ref hw hb) (kk ws H locs ls (w :: sc) (zi_ex_refl ws) ⟨h1, h2, h3, h4, ⟨lv, h5, h7⟩, ⟨hw, h6⟩⟩)
theorem zi_go_sti {i : Nat} (row : ∀ (Q : State → Prop) (H : Heap) (locs : List Loc) (ls : Array Slot) (sc : List Value) (x : Int32) (lv : List (Nat × Value)), lv_has ls nL lv → i < nL → (∀ ls', lv_has ls' nL ((i, Value.int x) :: lv.filter (fun q => !(q.1 == i) && !(q.1 + 1 == i && q.2.category == 2))) → zi_W p l e R s m args below meth c Q nc ns (pc + n) H locs ls' sc) → zi_W p l e R s m args below meth c Q nc ns pc H locs ls (.int x :: sc)) (h : zi_sti pc n nL al st A nc ns i = some (.inl g)) : zi_Go p l e R s m args below meth c B0 D dA adK adV b nL (pc, al, st, A, nc, ns) g := by
  unfold zi_sti at h
  cases st with
  | nil => cases h
  | cons v r =>
    dsimp only at h
    cases hb : (Nat.beq (zi_kd v) 0 && Nat.ble (i + 1) nL) with
    | false => rw [hb] at h; cases h
    | true =>
      rw [hb] at h
      cases h
      rw [Bool.and_eq_true] at hb
      have hb1 := Nat.eq_of_beq_eq_true hb.1
      have hb2 := Nat.le_of_ble_eq_true hb.2
      intro Q ws H locs ls sc hS _ _ kk
      obtain ⟨h1, h2, h3, h4, ⟨lv, h5, h7⟩, h6⟩ := hS
      obtain ⟨w, sc, rfl, hw, k1⟩ := zi_F2_cons h6
      obtain ⟨x, rfl⟩ := zi_vr_int hw hb1
      exact row Q H locs ls sc x lv h5 hb2 (fun ls' hl => kk ws H locs ls' sc (zi_ex_refl ws) ⟨h1, h2, h3, h4, ⟨_, hl, ⟨⟨rfl, hw⟩, zi_del1_ok i h7⟩⟩, k1⟩)
theorem zi_go_stl {i : Nat} (row : ∀ (Q : State → Prop) (H : Heap) (locs : List Loc) (ls : Array Slot) (sc : List Value) (x : Int64) (lv : List (Nat × Value)), lv_has ls nL lv → i + 1 < nL → (∀ ls', lv_has ls' nL ((i, Value.long x) :: lv.filter (fun q => !(q.1 == i) && (!(q.1 == i + 1) && !(q.1 + 1 == i && q.2.category == 2)))) → zi_W p l e R s m args below meth c Q nc ns (pc + n) H locs ls' sc) → zi_W p l e R s m args below meth c Q nc ns pc H locs ls (.long x :: sc)) (h : zi_stl pc n nL al st A nc ns i = some (.inl g)) : zi_Go p l e R s m args below meth c B0 D dA adK adV b nL (pc, al, st, A, nc, ns) g := by
  unfold zi_stl at h
  cases st with
  | nil => cases h
  | cons v r =>
    dsimp only at h
    cases hb : (Nat.beq (zi_kd v) 1 && Nat.ble (i + 2) nL) with
    | false => rw [hb] at h; cases h
    | true =>
      rw [hb] at h
      cases h
      rw [Bool.and_eq_true] at hb
      have hb1 := Nat.eq_of_beq_eq_true hb.1
      have hb2 := Nat.le_of_ble_eq_true hb.2
      intro Q ws H locs ls sc hS _ _ kk
      obtain ⟨h1, h2, h3, h4, ⟨lv, h5, h7⟩, h6⟩ := hS
      obtain ⟨w, sc, rfl, hw, k2⟩ := zi_F2_cons h6
      obtain ⟨x, rfl⟩ := zi_vr_long hw hb1
      exact row Q H locs ls sc x lv h5 hb2 (fun ls' hl => kk ws H locs ls' sc (zi_ex_refl ws) ⟨h1, h2, h3, h4, ⟨_, hl, ⟨⟨rfl, hw⟩, zi_del2_ok i h7⟩⟩, k2⟩)
theorem zi_go_sta {i : Nat} (row : ∀ (Q : State → Prop) (H : Heap) (locs : List Loc) (ls : Array Slot) (sc : List Value) (w : Value) (lv : List (Nat × Value)), (w = .null ∨ ∃ a, w = .ref a) → lv_has ls nL lv → i < nL → (∀ ls', lv_has ls' nL ((i, w) :: lv.filter (fun q => !(q.1 == i) && !(q.1 + 1 == i && q.2.category == 2))) → zi_W p l e R s m args below meth c Q nc ns (pc + n) H locs ls' sc) → zi_W p l e R s m args below meth c Q nc ns pc H locs ls (w :: sc)) (h : zi_sta pc n nL al st A nc ns i = some (.inl g)) : zi_Go p l e R s m args below meth c B0 D dA adK adV b nL (pc, al, st, A, nc, ns) g := by
  unfold zi_sta at h
  cases st with
  | nil => cases h
  | cons v r =>
    dsimp only at h
    cases hb : (Nat.ble 2 (zi_kd v) && Nat.ble (i + 1) nL) with
    | false => rw [hb] at h; cases h
    | true =>
      rw [hb] at h
      cases h
      rw [Bool.and_eq_true] at hb
      have hb1 := Nat.le_of_ble_eq_true hb.1
      have hb2 := Nat.le_of_ble_eq_true hb.2
      intro Q ws H locs ls sc hS _ _ kk
      obtain ⟨h1, h2, h3, h4, ⟨lv, h5, h7⟩, h6⟩ := hS
      obtain ⟨w, sc, rfl, hw, k3⟩ := zi_F2_cons h6
      exact row Q H locs ls sc w lv (zi_vr_ref hw hb1) h5 hb2 (fun ls' hl => kk ws H locs ls' sc (zi_ex_refl ws) ⟨h1, h2, h3, h4, ⟨_, hl, ⟨⟨rfl, hw⟩, zi_del1_ok i h7⟩⟩, k3⟩)
theorem zi_go_inc {i : Nat} {k : Int} (row : ∀ (Q : State → Prop) (H : Heap) (locs : List Loc) (ls : Array Slot) (sc : List Value) (x : Int32) (lv : List (Nat × Value)) (j : Nat), lv_has ls nL lv → lv[j]? = some (i, .int x) → i < nL → (∀ ls', lv_has ls' nL ((i, Value.int (x + Int32.ofInt k)) :: lv.filter (fun q => !(q.1 == i) && !(q.1 + 1 == i && q.2.category == 2))) → zi_W p l e R s m args below meth c Q nc ns (pc + n) H locs ls' sc) → zi_W p l e R s m args below meth c Q nc ns pc H locs ls sc) (h : zi_inc pc n nL al st A nc ns i k = some (.inl g)) : zi_Go p l e R s m args below meth c B0 D dA adK adV b nL (pc, al, st, A, nc, ns) g := by
  unfold zi_inc at h
  split at h
  · rename_i x hv
    cases hb : Nat.ble (i + 1) nL with
    | false => rw [hb] at h; cases h
    | true =>
      rw [hb] at h
      cases h
      have hb := Nat.le_of_ble_eq_true hb
      intro Q ws H locs ls sc hS _ _ kk
      obtain ⟨h1, h2, h3, h4, ⟨lv, h5, h7⟩, h6⟩ := hS
      obtain ⟨j, w, hj, hw⟩ := zi_loc_get h7 hv
      have hw : w = .int x := hw
      subst hw
      exact row Q H locs ls sc x lv j h5 hj hb (fun ls' hl => kk ws H locs ls' sc (zi_ex_refl ws) ⟨h1, h2, h3, h4, ⟨_, hl, ⟨⟨rfl, rfl⟩, zi_del1_ok i h7⟩⟩, h6⟩)
  · cases h
theorem zi_go_ii {op : Int32 → Int32 → Int32} (row : ∀ (Q : State → Prop) (H : Heap) (locs : List Loc) (ls : Array Slot) (sc : List Value) (x : Int32) (y : Int32), zi_W p l e R s m args below meth c Q nc ns (pc + n) H locs ls (Value.int (op x y) :: sc) → zi_W p l e R s m args below meth c Q nc ns pc H locs ls (Value.int y :: Value.int x :: sc)) (h : zi_ii op pc n al st A nc ns = some (.inl g)) : zi_Go p l e R s m args below meth c B0 D dA adK adV b nL (pc, al, st, A, nc, ns) g := by
  unfold zi_ii at h
  split at h
  · rename_i y x r
    cases h
    intro Q ws H locs ls sc hS _ _ kk
    obtain ⟨h1, h2, h3, h4, h5, h6⟩ := hS
    obtain ⟨w1, sc, rfl, hw1, k4⟩ := zi_F2_cons h6
    obtain ⟨w2, sc, rfl, hw2, k5⟩ := zi_F2_cons k4
    have hw1 : w1 = Value.int y := hw1
    have hw2 : w2 = Value.int x := hw2
    subst hw1 hw2
    exact row Q H locs ls sc x y (kk ws H locs ls _ (zi_ex_refl ws) ⟨h1, h2, h3, h4, h5, ⟨rfl, k5⟩⟩)
  · cases h
theorem zi_go_iz {op : Int32 → Int32 → Int32} (row : ∀ (Q : State → Prop) (H : Heap) (locs : List Loc) (ls : Array Slot) (sc : List Value) (x : Int32) (y : Int32), ¬ y = 0 → zi_W p l e R s m args below meth c Q nc ns (pc + n) H locs ls (Value.int (op x y) :: sc) → zi_W p l e R s m args below meth c Q nc ns pc H locs ls (Value.int y :: Value.int x :: sc)) (h : zi_iz op pc n al st A nc ns = some (.inl g)) : zi_Go p l e R s m args below meth c B0 D dA adK adV b nL (pc, al, st, A, nc, ns) g := by
  unfold zi_iz at h
  split at h
  · rename_i y x r
    cases hz : decide (y = 0) with
    | true => rw [hz] at h; cases h
    | false =>
    rw [hz] at h
    cases h
    have hz : ¬ y = 0 := of_decide_eq_false hz
    intro Q ws H locs ls sc hS _ _ kk
    obtain ⟨h1, h2, h3, h4, h5, h6⟩ := hS
    obtain ⟨w1, sc, rfl, hw1, k6⟩ := zi_F2_cons h6
    obtain ⟨w2, sc, rfl, hw2, k7⟩ := zi_F2_cons k6
    have hw1 : w1 = Value.int y := hw1
    have hw2 : w2 = Value.int x := hw2
    subst hw1 hw2
    exact row Q H locs ls sc x y hz (kk ws H locs ls _ (zi_ex_refl ws) ⟨h1, h2, h3, h4, h5, ⟨rfl, k7⟩⟩)
  · cases h
theorem zi_go_ll {op : Int64 → Int64 → Int64} (row : ∀ (Q : State → Prop) (H : Heap) (locs : List Loc) (ls : Array Slot) (sc : List Value) (x : Int64) (y : Int64), zi_W p l e R s m args below meth c Q nc ns (pc + n) H locs ls (Value.long (op x y) :: sc) → zi_W p l e R s m args below meth c Q nc ns pc H locs ls (Value.long y :: Value.long x :: sc)) (h : zi_ll op pc n al st A nc ns = some (.inl g)) : zi_Go p l e R s m args below meth c B0 D dA adK adV b nL (pc, al, st, A, nc, ns) g := by
  unfold zi_ll at h
  split at h
  · rename_i y x r
    cases h
    intro Q ws H locs ls sc hS _ _ kk
    obtain ⟨h1, h2, h3, h4, h5, h6⟩ := hS
    obtain ⟨w1, sc, rfl, hw1, k8⟩ := zi_F2_cons h6
    obtain ⟨w2, sc, rfl, hw2, k9⟩ := zi_F2_cons k8
    have hw1 : w1 = Value.long y := hw1
    have hw2 : w2 = Value.long x := hw2
    subst hw1 hw2
    exact row Q H locs ls sc x y (kk ws H locs ls _ (zi_ex_refl ws) ⟨h1, h2, h3, h4, h5, ⟨rfl, k9⟩⟩)
  · cases h
theorem zi_go_lw {op : Int64 → Int32 → Int64} (row : ∀ (Q : State → Prop) (H : Heap) (locs : List Loc) (ls : Array Slot) (sc : List Value) (x : Int64) (y : Int32), zi_W p l e R s m args below meth c Q nc ns (pc + n) H locs ls (Value.long (op x y) :: sc) → zi_W p l e R s m args below meth c Q nc ns pc H locs ls (Value.int y :: Value.long x :: sc)) (h : zi_lw op pc n al st A nc ns = some (.inl g)) : zi_Go p l e R s m args below meth c B0 D dA adK adV b nL (pc, al, st, A, nc, ns) g := by
  unfold zi_lw at h
  split at h
  · rename_i y x r
    cases h
    intro Q ws H locs ls sc hS _ _ kk
    obtain ⟨h1, h2, h3, h4, h5, h6⟩ := hS
    obtain ⟨w1, sc, rfl, hw1, k10⟩ := zi_F2_cons h6
    obtain ⟨w2, sc, rfl, hw2, k11⟩ := zi_F2_cons k10
    have hw1 : w1 = Value.int y := hw1
    have hw2 : w2 = Value.long x := hw2
    subst hw1 hw2
    exact row Q H locs ls sc x y (kk ws H locs ls _ (zi_ex_refl ws) ⟨h1, h2, h3, h4, h5, ⟨rfl, k11⟩⟩)
  · cases h
theorem zi_go_lc (row : ∀ (Q : State → Prop) (H : Heap) (locs : List Loc) (ls : Array Slot) (sc : List Value) (x : Int64) (y : Int64), zi_W p l e R s m args below meth c Q nc ns (pc + n) H locs ls (Value.int (lg_cmp x y) :: sc) → zi_W p l e R s m args below meth c Q nc ns pc H locs ls (Value.long y :: Value.long x :: sc)) (h : zi_lc pc n al st A nc ns = some (.inl g)) : zi_Go p l e R s m args below meth c B0 D dA adK adV b nL (pc, al, st, A, nc, ns) g := by
  unfold zi_lc at h
  split at h
  · rename_i y x r
    cases h
    intro Q ws H locs ls sc hS _ _ kk
    obtain ⟨h1, h2, h3, h4, h5, h6⟩ := hS
    obtain ⟨w1, sc, rfl, hw1, k12⟩ := zi_F2_cons h6
    obtain ⟨w2, sc, rfl, hw2, k13⟩ := zi_F2_cons k12
    have hw1 : w1 = Value.long y := hw1
    have hw2 : w2 = Value.long x := hw2
    subst hw1 hw2
    exact row Q H locs ls sc x y (kk ws H locs ls _ (zi_ex_refl ws) ⟨h1, h2, h3, h4, h5, ⟨rfl, k13⟩⟩)
  · cases h
theorem zi_go_i1 {op : Int32 → Value} (hop : ∀ x ad, zi_vr ad (.inl (op x)) (op x)) (row : ∀ (Q : State → Prop) (H : Heap) (locs : List Loc) (ls : Array Slot) (sc : List Value) (x : Int32), zi_W p l e R s m args below meth c Q nc ns (pc + n) H locs ls (op x :: sc) → zi_W p l e R s m args below meth c Q nc ns pc H locs ls (Value.int x :: sc)) (h : zi_i1 op pc n al st A nc ns = some (.inl g)) : zi_Go p l e R s m args below meth c B0 D dA adK adV b nL (pc, al, st, A, nc, ns) g := by
  unfold zi_i1 at h
  split at h
  · rename_i x r
    cases h
    intro Q ws H locs ls sc hS _ _ kk
    obtain ⟨h1, h2, h3, h4, h5, h6⟩ := hS
    obtain ⟨w1, sc, rfl, hw1, k14⟩ := zi_F2_cons h6
    have hw1 : w1 = Value.int x := hw1
    subst hw1
    exact row Q H locs ls sc x (kk ws H locs ls _ (zi_ex_refl ws) ⟨h1, h2, h3, h4, h5, ⟨hop x _, k14⟩⟩)
  · cases h
theorem zi_go_l1 {op : Int64 → Value} (hop : ∀ x ad, zi_vr ad (.inl (op x)) (op x)) (row : ∀ (Q : State → Prop) (H : Heap) (locs : List Loc) (ls : Array Slot) (sc : List Value) (x : Int64), zi_W p l e R s m args below meth c Q nc ns (pc + n) H locs ls (op x :: sc) → zi_W p l e R s m args below meth c Q nc ns pc H locs ls (Value.long x :: sc)) (h : zi_l1 op pc n al st A nc ns = some (.inl g)) : zi_Go p l e R s m args below meth c B0 D dA adK adV b nL (pc, al, st, A, nc, ns) g := by
  unfold zi_l1 at h
  split at h
  · rename_i x r
    cases h
    intro Q ws H locs ls sc hS _ _ kk
    obtain ⟨h1, h2, h3, h4, h5, h6⟩ := hS
    obtain ⟨w1, sc, rfl, hw1, k15⟩ := zi_F2_cons h6
    have hw1 : w1 = Value.long x := hw1
    subst hw1
    exact row Q H locs ls sc x (kk ws H locs ls _ (zi_ex_refl ws) ⟨h1, h2, h3, h4, h5, ⟨hop x _, k15⟩⟩)
  · cases h
theorem zi_go_dup (row : ∀ (Q : State → Prop) (H : Heap) (locs : List Loc) (ls : Array Slot) (sc : List Value) (w : Value), w.category = 1 → zi_W p l e R s m args below meth c Q nc ns (pc + n) H locs ls (w :: w :: sc) → zi_W p l e R s m args below meth c Q nc ns pc H locs ls (w :: sc)) (h : zi_dup pc n al st A nc ns = some (.inl g)) : zi_Go p l e R s m args below meth c B0 D dA adK adV b nL (pc, al, st, A, nc, ns) g := by
  unfold zi_dup at h
  cases st with
  | nil => cases h
  | cons v r =>
    dsimp only at h
    cases hb : Nat.beq (zi_cat v) 1 with
    | false => rw [hb] at h; cases h
    | true =>
      rw [hb] at h
      cases h
      have hb := Nat.eq_of_beq_eq_true hb
      intro Q ws H locs ls sc hS _ _ kk
      obtain ⟨h1, h2, h3, h4, h5, h6⟩ := hS
      obtain ⟨w1, sc, rfl, hw1, k16⟩ := zi_F2_cons h6
      exact row Q H locs ls sc w1 ((zi_vr_cat hw1).trans hb) (kk ws H locs ls _ (zi_ex_refl ws) ⟨h1, h2, h3, h4, h5, ⟨hw1, hw1, k16⟩⟩)
theorem zi_go_pop (row : ∀ (Q : State → Prop) (H : Heap) (locs : List Loc) (ls : Array Slot) (sc : List Value) (w : Value), w.category = 1 → zi_W p l e R s m args below meth c Q nc ns (pc + n) H locs ls sc → zi_W p l e R s m args below meth c Q nc ns pc H locs ls (w :: sc)) (h : zi_pop pc n al st A nc ns = some (.inl g)) : zi_Go p l e R s m args below meth c B0 D dA adK adV b nL (pc, al, st, A, nc, ns) g := by
  unfold zi_pop at h
  cases st with
  | nil => cases h
  | cons v r =>
    dsimp only at h
    cases hb : Nat.beq (zi_cat v) 1 with
    | false => rw [hb] at h; cases h
    | true =>
      rw [hb] at h
      cases h
      have hb := Nat.eq_of_beq_eq_true hb
      intro Q ws H locs ls sc hS _ _ kk
      obtain ⟨h1, h2, h3, h4, h5, h6⟩ := hS
      obtain ⟨w1, sc, rfl, hw1, k17⟩ := zi_F2_cons h6
      exact row Q H locs ls sc w1 ((zi_vr_cat hw1).trans hb) (kk ws H locs ls _ (zi_ex_refl ws) ⟨h1, h2, h3, h4, h5, k17⟩)
theorem zi_cat12 (v : zi_V) (h : Nat.beq (zi_cat v) 2 = false) : zi_cat v = 1 := by
  unfold zi_cat at h ⊢
  split at h
  · cases h
  · rfl
theorem zi_go_dup2 (row2 : ∀ (Q : State → Prop) (H : Heap) (locs : List Loc) (ls : Array Slot) (sc : List Value) (w : Value), w.category = 2 → zi_W p l e R s m args below meth c Q nc ns (pc + n) H locs ls (w :: w :: sc) → zi_W p l e R s m args below meth c Q nc ns pc H locs ls (w :: sc)) (row1 : ∀ (Q : State → Prop) (H : Heap) (locs : List Loc) (ls : Array Slot) (sc : List Value) (v w : Value), v.category = 1 → w.category = 1 → zi_W p l e R s m args below meth c Q nc ns (pc + n) H locs ls (v :: w :: v :: w :: sc) → zi_W p l e R s m args below meth c Q nc ns pc H locs ls (v :: w :: sc)) (h : zi_dup2 pc n al st A nc ns = some (.inl g)) : zi_Go p l e R s m args below meth c B0 D dA adK adV b nL (pc, al, st, A, nc, ns) g := by
  unfold zi_dup2 at h
  split at h
  · rename_i v w r
    cases hb : Nat.beq (zi_cat v) 2 with
    | true =>
      rw [hb] at h
      cases h
      have hb := Nat.eq_of_beq_eq_true hb
      intro Q ws H locs ls sc hS _ _ kk
      obtain ⟨h1, h2, h3, h4, h5, h6⟩ := hS
      obtain ⟨w1, sc, rfl, hw1, k18⟩ := zi_F2_cons h6
      exact row2 Q H locs ls sc w1 ((zi_vr_cat hw1).trans hb) (kk ws H locs ls _ (zi_ex_refl ws) ⟨h1, h2, h3, h4, h5, ⟨hw1, hw1, k18⟩⟩)
    | false =>
      rw [hb] at h
      have hv := zi_cat12 v hb
      cases hb2 : Nat.beq (zi_cat w) 1 with
      | false => rw [hb2] at h; cases h
      | true =>
        rw [hb2] at h
        cases h
        have hb2 := Nat.eq_of_beq_eq_true hb2
        intro Q ws H locs ls sc hS _ _ kk
        obtain ⟨h1, h2, h3, h4, h5, h6⟩ := hS
        obtain ⟨w1, sc, rfl, hw1, k19⟩ := zi_F2_cons h6
        obtain ⟨w2, sc, rfl, hw2, k20⟩ := zi_F2_cons k19
        exact row1 Q H locs ls sc w1 w2 ((zi_vr_cat hw1).trans hv) ((zi_vr_cat hw2).trans hb2) (kk ws H locs ls _ (zi_ex_refl ws) ⟨h1, h2, h3, h4, h5, ⟨hw1, hw2, hw1, hw2, k20⟩⟩)
  · cases h
/-- what a condition says of two ints -/
def zi_says (k : ClassFile.Cond) (x y : Int32) : Prop := match k with
  | .eq => x = y
  | .ne => ¬ x = y
  | .lt => x < y
  | .ge => y ≤ x
  | .gt => y < x
  | .le => x ≤ y
theorem zi_test_ok {k : ClassFile.Cond} {v w : zi_V} {a' b' : Value} {ad : Nat → Option Nat} (hv : zi_vr ad v a') (hw : zi_vr ad w b') {r : Bool} (h : zi_test k v w = some r) : ∃ x y, a' = .int x ∧ b' = .int y ∧ (zi_says k x y ↔ r = true) := by
  unfold zi_test at h
  split at h
  · rename_i qa qb e1 e2
    obtain ⟨x, rfl, hx⟩ := zi_vr_iv hv e1
    obtain ⟨y, rfl, hy⟩ := zi_vr_iv hw e2
    refine ⟨x, y, rfl, rfl, ?_⟩
    cases k with
    | eq => exact zi_test_eq hx hy h
    | ne =>
      have h : (zi_eq qa qb).map (fun q => !q) = some r := h
      cases he : zi_eq qa qb with
      | none => rw [he] at h; cases h
      | some r0 =>
        rw [he] at h
        have e3 : (!r0) = r := Option.some.inj h
        have h0 := zi_test_eq hx hy he
        show (¬ x = y) ↔ _
        rw [h0, ← e3]
        cases r0 <;> simp
    | lt => exact zi_test_lt hx hy h
    | ge => exact zi_test_le hy hx h
    | gt => exact zi_test_lt hy hx h
    | le => exact zi_test_le hx hy h
  · cases h
theorem zi_go_if1 {k : ClassFile.Cond} {tgt : Nat} (rowt : ∀ (Q : State → Prop) (H : Heap) (locs : List Loc) (ls : Array Slot) (sc : List Value) (x : Int32), (zi_says k x 0 → zi_W p l e R s m args below meth c Q nc ns tgt H locs ls sc) → (¬ zi_says k x 0 → zi_W p l e R s m args below meth c Q nc ns (pc + n) H locs ls sc) → zi_W p l e R s m args below meth c Q nc ns pc H locs ls (.int x :: sc)) (h : zi_if1 k pc n al st A nc ns tgt = some (.inl g)) : zi_Go p l e R s m args below meth c B0 D dA adK adV b nL (pc, al, st, A, nc, ns) g := by
  unfold zi_if1 at h
  split at h
  · rename_i v r
    unfold zi_br at h
    split at h
    · rename_i ht
      cases h
      intro Q ws H locs ls sc hS _ _ kk
      obtain ⟨h1, h2, h3, h4, h5, h6⟩ := hS
      obtain ⟨w1, sc, rfl, hw1, k21⟩ := zi_F2_cons h6
      obtain ⟨x, y, rfl, ey, hxy⟩ := zi_test_ok (w := .inl (.int 0)) (b' := .int 0) hw1 rfl ht
      cases ey
      exact rowt Q H locs ls sc x (fun _ => kk ws H locs ls _ (zi_ex_refl ws) ⟨h1, h2, h3, h4, h5, k21⟩) (fun z => absurd (hxy.mpr rfl) z)
    · rename_i ht
      cases h
      intro Q ws H locs ls sc hS _ _ kk
      obtain ⟨h1, h2, h3, h4, h5, h6⟩ := hS
      obtain ⟨w1, sc, rfl, hw1, k22⟩ := zi_F2_cons h6
      obtain ⟨x, y, rfl, ey, hxy⟩ := zi_test_ok (w := .inl (.int 0)) (b' := .int 0) hw1 rfl ht
      cases ey
      exact rowt Q H locs ls sc x (fun z => absurd (hxy.mp z) (by decide)) (fun _ => kk ws H locs ls _ (zi_ex_refl ws) ⟨h1, h2, h3, h4, h5, k22⟩)
    · cases h
  · cases h
theorem zi_go_if2 {k : ClassFile.Cond} {tgt : Nat} (rowt : ∀ (Q : State → Prop) (H : Heap) (locs : List Loc) (ls : Array Slot) (sc : List Value) (x y : Int32), (zi_says k x y → zi_W p l e R s m args below meth c Q nc ns tgt H locs ls sc) → (¬ zi_says k x y → zi_W p l e R s m args below meth c Q nc ns (pc + n) H locs ls sc) → zi_W p l e R s m args below meth c Q nc ns pc H locs ls (.int y :: .int x :: sc)) (h : zi_if2 k pc n al st A nc ns tgt = some (.inl g)) : zi_Go p l e R s m args below meth c B0 D dA adK adV b nL (pc, al, st, A, nc, ns) g := by
  unfold zi_if2 at h
  split at h
  · rename_i w v r
    unfold zi_br at h
    split at h
    · rename_i ht
      cases h
      intro Q ws H locs ls sc hS _ _ kk
      obtain ⟨h1, h2, h3, h4, h5, h6⟩ := hS
      obtain ⟨w1, sc, rfl, hw1, k23⟩ := zi_F2_cons h6
      obtain ⟨w2, sc, rfl, hw2, k24⟩ := zi_F2_cons k23
      obtain ⟨x, y, rfl, rfl, hxy⟩ := zi_test_ok hw2 hw1 ht
      exact rowt Q H locs ls sc x y (fun _ => kk ws H locs ls _ (zi_ex_refl ws) ⟨h1, h2, h3, h4, h5, k24⟩) (fun z => absurd (hxy.mpr rfl) z)
    · rename_i ht
      cases h
      intro Q ws H locs ls sc hS _ _ kk
      obtain ⟨h1, h2, h3, h4, h5, h6⟩ := hS
      obtain ⟨w1, sc, rfl, hw1, k25⟩ := zi_F2_cons h6
      obtain ⟨w2, sc, rfl, hw2, k26⟩ := zi_F2_cons k25
      obtain ⟨x, y, rfl, rfl, hxy⟩ := zi_test_ok hw2 hw1 ht
      exact rowt Q H locs ls sc x y (fun z => absurd (hxy.mp z) (by decide)) (fun _ => kk ws H locs ls _ (zi_ex_refl ws) ⟨h1, h2, h3, h4, h5, k26⟩)
    · cases h
  · cases h
theorem zi_go_nul {k : Bool} {tgt : Nat} (rown : ∀ (Q : State → Prop) (H : Heap) (locs : List Loc) (ls : Array Slot) (sc : List Value), zi_W p l e R s m args below meth c Q nc ns (bif k then tgt else pc + n) H locs ls sc → zi_W p l e R s m args below meth c Q nc ns pc H locs ls (.null :: sc)) (rowr : ∀ (Q : State → Prop) (H : Heap) (locs : List Loc) (ls : Array Slot) (sc : List Value) (a : Nat), zi_W p l e R s m args below meth c Q nc ns (bif k then pc + n else tgt) H locs ls sc → zi_W p l e R s m args below meth c Q nc ns pc H locs ls (.ref a :: sc)) (h : zi_nul k pc n al st A nc ns tgt = some (.inl g)) : zi_Go p l e R s m args below meth c B0 D dA adK adV b nL (pc, al, st, A, nc, ns) g := by
  unfold zi_nul at h
  split at h
  · rename_i r
    cases k with
    | true =>
      cases h
      intro Q ws H locs ls sc hS _ _ kk
      obtain ⟨h1, h2, h3, h4, h5, h6⟩ := hS
      obtain ⟨w1, sc, rfl, hw1, k27⟩ := zi_F2_cons h6
      have hw1 : w1 = .null := hw1
      subst hw1
      exact rown Q H locs ls sc (kk ws H locs ls _ (zi_ex_refl ws) ⟨h1, h2, h3, h4, h5, k27⟩)
    | false =>
      cases h
      intro Q ws H locs ls sc hS _ _ kk
      obtain ⟨h1, h2, h3, h4, h5, h6⟩ := hS
      obtain ⟨w1, sc, rfl, hw1, k28⟩ := zi_F2_cons h6
      have hw1 : w1 = .null := hw1
      subst hw1
      exact rown Q H locs ls sc (kk ws H locs ls _ (zi_ex_refl ws) ⟨h1, h2, h3, h4, h5, k28⟩)
  · rename_i i r
    cases k with
    | true =>
      cases h
      intro Q ws H locs ls sc hS _ _ kk
      obtain ⟨h1, h2, h3, h4, h5, h6⟩ := hS
      obtain ⟨w1, sc, rfl, ⟨a, -, rfl⟩, k29⟩ := zi_F2_cons h6
      exact rowr Q H locs ls sc a (kk ws H locs ls _ (zi_ex_refl ws) ⟨h1, h2, h3, h4, h5, k29⟩)
    | false =>
      cases h
      intro Q ws H locs ls sc hS _ _ kk
      obtain ⟨h1, h2, h3, h4, h5, h6⟩ := hS
      obtain ⟨w1, sc, rfl, ⟨a, -, rfl⟩, k30⟩ := zi_F2_cons h6
      exact rowr Q H locs ls sc a (kk ws H locs ls _ (zi_ex_refl ws) ⟨h1, h2, h3, h4, h5, k30⟩)
  · cases h
theorem zi_go_tsw {lo hi : Int} {o : List Nat} (rowo : ∀ (Q : State → Prop) (H : Heap) (locs : List Loc) (ls : Array Slot) (sc : List Value) (x : Int32) (t : Nat) (ts : List Nat), o = t :: ts → (x.toInt < lo ∨ hi < x.toInt) → zi_W p l e R s m args below meth c Q nc ns t H locs ls sc → zi_W p l e R s m args below meth c Q nc ns pc H locs ls (.int x :: sc)) (rowi : ∀ (Q : State → Prop) (H : Heap) (locs : List Loc) (ls : Array Slot) (sc : List Value) (x : Int32) (t0 t : Nat) (ts : List Nat), o = t0 :: ts → ¬ x.toInt < lo → ¬ hi < x.toInt → ts[(x.toInt - lo).toNat]? = some t → zi_W p l e R s m args below meth c Q nc ns t H locs ls sc → zi_W p l e R s m args below meth c Q nc ns pc H locs ls (.int x :: sc)) (h : zi_tsw lo hi al st A nc ns o = some (.inl g)) : zi_Go p l e R s m args below meth c B0 D dA adK adV b nL (pc, al, st, A, nc, ns) g := by
  unfold zi_tsw at h
  split at h
  · rename_i v r t0 ts
    split at h
    · rename_i q hq
      cases hb : (decide (q.2.toInt < lo) || decide (hi < q.1.toInt)) with
      | true =>
        rw [hb] at h
        cases h
        intro Q ws H locs ls sc hS _ _ kk
        obtain ⟨h1, h2, h3, h4, h5, h6⟩ := hS
        obtain ⟨w1, sc, rfl, hw1, k31⟩ := zi_F2_cons h6
        obtain ⟨x, rfl, hx1, hx2⟩ := zi_vr_iv hw1 hq
        rw [zi_ile] at hx1 hx2
        simp only [Bool.or_eq_true, decide_eq_true_eq] at hb
        exact rowo Q H locs ls sc x t0 ts rfl (by omega) (kk ws H locs ls _ (zi_ex_refl ws) ⟨h1, h2, h3, h4, h5, k31⟩)
      | false =>
        rw [hb] at h
        cases hb2 : (decide (q.1 = q.2) && !decide (q.1.toInt < lo) && !decide (hi < q.1.toInt)) with
        | false => rw [hb2] at h; cases h
        | true =>
          rw [hb2] at h
          simp only [Bool.and_eq_true, decide_eq_true_eq, Bool.not_eq_true', decide_eq_false_iff_not, cond_true, cond_false] at hb2 h
          split at h
          · rename_i t ht
            cases h
            intro Q ws H locs ls sc hS _ _ kk
            obtain ⟨h1, h2, h3, h4, h5, h6⟩ := hS
            obtain ⟨w1, sc, rfl, hw1, k32⟩ := zi_F2_cons h6
            obtain ⟨x, rfl, hx1, hx2⟩ := zi_vr_iv hw1 hq
            have ex : x = q.1 := by
              rw [zi_ieq]
              rw [zi_ile] at hx1 hx2
              rw [← hb2.1.1] at hx2
              omega
            subst ex
            exact rowi Q H locs ls sc q.1 t0 t ts rfl hb2.1.2 hb2.2 ht (kk ws H locs ls _ (zi_ex_refl ws) ⟨h1, h2, h3, h4, h5, k32⟩)
          · cases h
    · cases h
  · cases h
theorem zi_go_lz {op : Int64 → Int64 → Int64} (row : ∀ (Q : State → Prop) (H : Heap) (locs : List Loc) (ls : Array Slot) (sc : List Value) (x : Int64) (y : Int64), ¬ y = 0 → zi_W p l e R s m args below meth c Q nc ns (pc + n) H locs ls (Value.long (op x y) :: sc) → zi_W p l e R s m args below meth c Q nc ns pc H locs ls (Value.long y :: Value.long x :: sc)) (h : zi_lz op pc n al st A nc ns = some (.inl g)) : zi_Go p l e R s m args below meth c B0 D dA adK adV b nL (pc, al, st, A, nc, ns) g := by
  unfold zi_lz at h
  split at h
  · rename_i y x r
    cases hz : decide (y = 0) with
    | true => rw [hz] at h; cases h
    | false =>
    rw [hz] at h
    cases h
    have hz : ¬ y = 0 := of_decide_eq_false hz
    intro Q ws H locs ls sc hS _ _ kk
    obtain ⟨h1, h2, h3, h4, h5, h6⟩ := hS
    obtain ⟨w1, sc, rfl, hw1, k6⟩ := zi_F2_cons h6
    obtain ⟨w2, sc, rfl, hw2, k7⟩ := zi_F2_cons k6
    have hw1 : w1 = Value.long y := hw1
    have hw2 : w2 = Value.long x := hw2
    subst hw1 hw2
    exact row Q H locs ls sc x y hz (kk ws H locs ls _ (zi_ex_refl ws) ⟨h1, h2, h3, h4, h5, ⟨rfl, k7⟩⟩)
  · cases h
theorem zi_go_lsw {dd : Int} {ps : List (Int × Int)} (row : ∀ (Q : State → Prop) (H : Heap) (locs : List Loc) (ls : Array Slot) (sc : List Value) (x : Int32) (t : Nat), (pc : Int) + Op.lookupswitch.offset ps dd x.toInt = (t : Int) → zi_W p l e R s m args below meth c Q nc ns t H locs ls sc → zi_W p l e R s m args below meth c Q nc ns pc H locs ls (.int x :: sc)) (h : zi_lsw dd ps pc al st A nc ns = some (.inl g)) : zi_Go p l e R s m args below meth c B0 D dA adK adV b nL (pc, al, st, A, nc, ns) g := by
  unfold zi_lsw at h
  split at h
  · rename_i x r
    cases hz : decide (0 ≤ (pc : Int) + Op.lookupswitch.offset ps dd x.toInt) with
    | false => rw [hz] at h; cases h
    | true =>
    rw [hz] at h
    cases h
    have hz := of_decide_eq_true hz
    intro Q ws H locs ls sc hS _ _ kk
    obtain ⟨h1, h2, h3, h4, h5, h6⟩ := hS
    obtain ⟨w1, sc, rfl, hw1, k6⟩ := zi_F2_cons h6
    have hw1 : w1 = Value.int x := hw1
    subst hw1
    exact row Q H locs ls sc x _ (by omega) (kk ws H locs ls _ (zi_ex_refl ws) ⟨h1, h2, h3, h4, h5, k6⟩)
  · cases h
end ZS
section ZLV
variable {p : Program} {l : Launch} {e : Env} {R : Room} {s : State} {m : MethodId} {args : Array Value} {below : List Frame} {meth : Method} {c : Code} {H : Heap} {locs : List Loc} {cells slots : Nat} {Q : State → Prop} {cc : ByteArray} {pc : Nat} {ls : Array Slot} {rest : List Value}
theorem zi_ldiv (hexec : p.tables.exec = Jvm.exec) (hb : c.code = cc) {x y : Int64} (hdg : decode cc pc = .ok (.ldiv, 1)) (hne : ¬ y = 0)
    (k : W p l e R s m args below meth c H locs cells slots Q (F0 m (pc + 1) ls (.long (x / y) :: rest))) : W p l e R s m args below meth c H locs cells slots Q (F0 m pc ls (.long y :: .long x :: rest)) := by
  intro T hT X
  obtain ⟨t, a, b⟩ := k T hT X
  refine ⟨t, ?_, b⟩
  jvm_step X.here [X.here.top, hexec, hb, hdg, hne]
  exact a
theorem zi_lrem (hexec : p.tables.exec = Jvm.exec) (hb : c.code = cc) {x y : Int64} (hdg : decode cc pc = .ok (.lrem, 1)) (hne : ¬ y = 0)
    (k : W p l e R s m args below meth c H locs cells slots Q (F0 m (pc + 1) ls (.long (x - x / y * y) :: rest))) : W p l e R s m args below meth c H locs cells slots Q (F0 m pc ls (.long y :: .long x :: rest)) := by
  intro T hT X
  obtain ⟨t, a, b⟩ := k T hT X
  refine ⟨t, ?_, b⟩
  jvm_step X.here [X.here.top, hexec, hb, hdg, hne]
  exact a
end ZLV
