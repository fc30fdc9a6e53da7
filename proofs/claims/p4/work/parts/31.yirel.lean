/-! How the two interpreters' states belong together. -/
def yi_vr (v : yi_V) (w : zi_V) : Prop := match v with
  | .inl z => ∃ x : Int32, w = .inl (.int x) ∧ x.toInt = z
  | .inr (.inl z) => ∃ x : Int64, w = .inl (.long x) ∧ x.toInt = z
  | .inr (.inr none) => w = .inl .null
  | .inr (.inr (some p)) => w = .inl (.ref p)
def yi_lr (p : Nat × yi_V) (q : Nat × zi_V) : Prop := p.1 = q.1 ∧ yi_vr p.2 q.2
def yi_cr (H : yi_H) (p : Nat) (c : zi_C) : Prop := match c with
  | .inl (ci, fs) => H.2.2.2.1 p = ci ∧ ci < 20 ∧ fs.length = (zi_Fs.getD ci ("", [])).2.length ∧ ∀ (k : Nat) (v : zi_V), fs[k]? = some v → yi_vr (yi_rd H (yi_tk (zi_ty ci k)) p k) v
  | .inr (t, n, d, us) => H.2.2.2.1 p = 20 + t ∧ t ≤ 6 ∧ H.2.2.2.2.1 p = n ∧ n ≤ 1000000 ∧ ∀ j, j < n → yi_vr (yi_rd H (zi_tk t) p j) (zi_look d us j)
def yi_hr (H : yi_H) (A : List zi_C) : Prop := A.length + 10 = H.2.2.2.2.2 ∧ ∀ p, H.2.2.2.1 p < 50 → 10 ≤ p ∧ ∃ c, A[p - 10]? = some c ∧ yi_cr H p c
def yi_fr (Y : yi_F) (f : zi_F) : Prop := Y.1 = f.1 ∧ zi_F2 yi_lr Y.2.1 f.2.1 ∧ zi_F2 yi_vr Y.2.2.1 f.2.2.1 ∧ yi_hr Y.2.2.2.1 f.2.2.2.1 ∧ Y.2.2.2.2.1 = f.2.2.2.2.1 ∧ Y.2.2.2.2.2 = f.2.2.2.2.2
def yi_op (v : Option yi_V) (w : Option zi_V) : Prop := match v, w with
  | some a, some b => yi_vr a b
  | none, none => True
  | _, _ => False
def yi_or (o : yi_O) (zo : zi_O) : Prop := match o with
  | some (.inl g) => ∃ zg, zo = some (.inl zg) ∧ yi_fr g zg
  | some (.inr v) => ∃ w, zo = some (.inr w) ∧ yi_op v w
  | none => True
def yi_rr (r : yi_R) (zr : zi_R) : Prop := yi_op r.1 zr.1 ∧ yi_hr r.2.1 zr.2.1 ∧ r.2.2.1 = zr.2.2.1 ∧ r.2.2.2 = zr.2.2.2
def yi_cs (yc : yi_K) (zc : zi_K) : Prop := ∀ (mi : Nat) (vs : List yi_V) (H : yi_H) (r : yi_R), yc mi vs H = some r → ∀ (zvs : List zi_V) (A : List zi_C), zi_F2 yi_vr vs zvs → yi_hr H A → ∃ zr, zc mi zvs A = some zr ∧ yi_rr r zr
theorem yi_wb (z : Int) : z.bmod (2 ^ 32) = yi_w z := by
  unfold yi_w
  rw [Int.bmod_def]
  omega
theorem yi_Wb (z : Int) : z.bmod (2 ^ 64) = yi_W z := by
  unfold yi_W
  rw [Int.bmod_def]
  omega
theorem yi_vr_kd {v : yi_V} {w : zi_V} (h : yi_vr v w) : zi_kd w = yi_kd v := by
  unfold yi_vr at h
  split at h
  · obtain ⟨x, rfl, -⟩ := h; rfl
  · obtain ⟨x, rfl, -⟩ := h; rfl
  · subst h; rfl
  · subst h; rfl
theorem yi_vr_cat {v : yi_V} {w : zi_V} (h : yi_vr v w) : zi_cat w = yi_cat v := by
  unfold yi_vr at h
  split at h
  · obtain ⟨x, rfl, -⟩ := h; rfl
  · obtain ⟨x, rfl, -⟩ := h; rfl
  · subst h; rfl
  · subst h; rfl
theorem yi_loc_ok {i : Nat} {v : yi_V} : ∀ {al : List (Nat × yi_V)} {zal : List (Nat × zi_V)}, zi_F2 yi_lr al zal → yi_loc al i = some v → ∃ w, zi_loc zal i = some w ∧ yi_vr v w
  | [], _, _, h => by cases h
  | _ :: _, [], h, _ => h.elim
  | p :: al, q :: zal, h, hv => by
    have hv : (bif Nat.beq p.1 i then some p.2 else yi_loc al i) = some v := hv
    have e : zi_loc (q :: zal) i = bif Nat.beq q.1 i then some q.2 else zi_loc zal i := rfl
    rw [e, ← h.1.1]
    cases hb : Nat.beq p.1 i with
    | true =>
      rw [hb] at hv
      have e1 : p.2 = v := Option.some.inj hv
      exact ⟨q.2, rfl, by rw [← e1]; exact h.1.2⟩
    | false =>
      rw [hb] at hv
      exact yi_loc_ok h.2 hv
theorem yi_del1_ok (i : Nat) : ∀ {al : List (Nat × yi_V)} {zal : List (Nat × zi_V)}, zi_F2 yi_lr al zal → zi_F2 yi_lr (yi_del1 i al) (zi_del1 i zal)
  | [], [], _ => trivial
  | [], _ :: _, h => h.elim
  | _ :: _, [], h => h.elim
  | p :: al, q :: zal, h => by
    have ih := yi_del1_ok i h.2
    have e1 : yi_del1 i (p :: al) = bif (!(Nat.beq p.1 i) && !(Nat.beq (p.1 + 1) i && Nat.beq (yi_cat p.2) 2)) then p :: yi_del1 i al else yi_del1 i al := rfl
    have e2 : zi_del1 i (q :: zal) = bif (!(Nat.beq q.1 i) && !(Nat.beq (q.1 + 1) i && Nat.beq (zi_cat q.2) 2)) then q :: zi_del1 i zal else zi_del1 i zal := rfl
    rw [e1, e2, ← h.1.1, yi_vr_cat h.1.2]
    cases (!(Nat.beq p.1 i) && !(Nat.beq (p.1 + 1) i && Nat.beq (yi_cat p.2) 2)) with
    | true => exact ⟨h.1, ih⟩
    | false => exact ih
theorem yi_del2_ok (i : Nat) : ∀ {al : List (Nat × yi_V)} {zal : List (Nat × zi_V)}, zi_F2 yi_lr al zal → zi_F2 yi_lr (yi_del2 i al) (zi_del2 i zal)
  | [], [], _ => trivial
  | [], _ :: _, h => h.elim
  | _ :: _, [], h => h.elim
  | p :: al, q :: zal, h => by
    have ih := yi_del2_ok i h.2
    have e1 : yi_del2 i (p :: al) = bif (!(Nat.beq p.1 i) && (!(Nat.beq p.1 (i + 1)) && !(Nat.beq (p.1 + 1) i && Nat.beq (yi_cat p.2) 2))) then p :: yi_del2 i al else yi_del2 i al := rfl
    have e2 : zi_del2 i (q :: zal) = bif (!(Nat.beq q.1 i) && (!(Nat.beq q.1 (i + 1)) && !(Nat.beq (q.1 + 1) i && Nat.beq (zi_cat q.2) 2))) then q :: zi_del2 i zal else zi_del2 i zal := rfl
    rw [e1, e2, ← h.1.1, yi_vr_cat h.1.2]
    cases (!(Nat.beq p.1 i) && (!(Nat.beq p.1 (i + 1)) && !(Nat.beq (p.1 + 1) i && Nat.beq (yi_cat p.2) 2))) with
    | true => exact ⟨h.1, ih⟩
    | false => exact ih
theorem yi_ent_ok : ∀ {vs : List yi_V} {ws : List zi_V}, zi_F2 yi_vr vs ws → ∀ i : Nat, zi_F2 yi_lr (yi_ent i vs) (zi_ent i ws)
  | [], [], _, _ => trivial
  | [], _ :: _, h, _ => h.elim
  | _ :: _, [], h, _ => h.elim
  | v :: vs, w :: ws, h, i => by
    have e1 : yi_ent i (v :: vs) = (i, v) :: yi_ent (i + yi_cat v) vs := rfl
    have e2 : zi_ent i (w :: ws) = (i, w) :: zi_ent (i + zi_cat w) ws := rfl
    rw [e1, e2, yi_vr_cat h.1]
    exact ⟨⟨rfl, h.1⟩, yi_ent_ok h.2 _⟩
theorem yi_cats_ok : ∀ {vs : List yi_V} {ws : List zi_V}, zi_F2 yi_vr vs ws → zi_cats ws = yi_cats vs
  | [], [], _ => rfl
  | [], _ :: _, h => h.elim
  | _ :: _, [], h => h.elim
  | v :: vs, w :: ws, h => by
    have e1 : yi_cats (v :: vs) = yi_cat v + yi_cats vs := rfl
    have e2 : zi_cats (w :: ws) = zi_cat w + zi_cats ws := rfl
    rw [e1, e2, yi_vr_cat h.1, yi_cats_ok h.2]
theorem yi_tlt (x y : Int32) : zi_test .lt (.inl (.int x)) (.inl (.int y)) = some (decide (x.toInt < y.toInt)) := by
  show (bif decide (x < y) then some true else bif decide (y ≤ x) then some false else none) = _
  by_cases h : x < y
  · have h2 := (zi_ilt _ _).mp h
    simp [h, h2]
  · have h2 : y ≤ x := Int32.not_lt.mp h
    have h3 : ¬ x.toInt < y.toInt := fun z => h ((zi_ilt _ _).mpr z)
    simp [h, h2, h3]
theorem yi_tle (x y : Int32) : zi_test .le (.inl (.int x)) (.inl (.int y)) = some (decide (x.toInt ≤ y.toInt)) := by
  show (bif decide (x ≤ y) then some true else bif decide (y < x) then some false else none) = _
  by_cases h : x ≤ y
  · have h2 := (zi_ile _ _).mp h
    simp [h, h2]
  · have h2 : y < x := Int32.not_le.mp h
    have h3 : ¬ x.toInt ≤ y.toInt := fun z => h ((zi_ile _ _).mpr z)
    simp [h, h2, h3]
theorem yi_teq (x y : Int32) : zi_eq (x, x) (y, y) = some (decide (x.toInt = y.toInt)) := by
  show (bif decide (x < y) || decide (y < x) then some false else bif decide (x = x) && decide (y = y) && decide (x = y) then some true else none) = _
  by_cases h : x = y
  · subst h
    simp [Int32.lt_irrefl]
  · have h3 : ¬ x.toInt = y.toInt := fun z => h ((zi_ieq _ _).mpr z)
    have h2 : x < y ∨ y < x := by
      rw [zi_ilt, zi_ilt]
      omega
    rcases h2 with z | z <;> simp [z, h, h3]
theorem yi_test (c : ClassFile.Cond) (x y : Int32) : zi_test c (.inl (.int x)) (.inl (.int y)) = some (yi_cmp c x.toInt y.toInt) := by
  cases c with
  | eq => exact yi_teq x y
  | ne => show (zi_eq (x, x) (y, y)).map (fun q => !q) = _; rw [yi_teq]; rfl
  | lt => exact yi_tlt x y
  | ge => exact yi_tle y x
  | gt => exact yi_tlt y x
  | le => exact yi_tle x y
/-! cells -/
def yi_vk (t : Nat) (v : yi_V) : Prop := match t, v with
  | 0, .inl _ => True
  | 1, .inr (.inl _) => True
  | 0, _ => False
  | 1, _ => False
  | _, .inr (.inr _) => True
  | _, _ => False
theorem yi_rd_eq {t : Nat} {v : yi_V} (h : yi_vk t v) (H : yi_H) (p k : Nat) : yi_rd (yi_wrt H p k v) t p k = v := by
  match t, v, h with
  | 0, .inl z, _ => show Sum.inl (if p = p ∧ k = k then z else H.1 p k) = _; rw [if_pos ⟨rfl, rfl⟩]
  | 1, .inr (.inl z), _ => show Sum.inr (Sum.inl (if p = p ∧ k = k then z else H.2.1 p k)) = _; rw [if_pos ⟨rfl, rfl⟩]
  | t + 2, .inr (.inr z), _ => show Sum.inr (Sum.inr (if p = p ∧ k = k then z else H.2.2.1 p k)) = _; rw [if_pos ⟨rfl, rfl⟩]
theorem yi_rd_ne {t p k p' k' : Nat} {v : yi_V} (h : ¬ (p' = p ∧ k' = k)) (H : yi_H) : yi_rd (yi_wrt H p k v) t p' k' = yi_rd H t p' k' := by
  match t, v with
  | 0, .inl z => show Sum.inl (if p' = p ∧ k' = k then z else H.1 p' k') = _; rw [if_neg h]; rfl
  | 0, .inr (.inl z) => rfl
  | 0, .inr (.inr z) => rfl
  | 1, .inl z => rfl
  | 1, .inr (.inl z) => show Sum.inr (Sum.inl (if p' = p ∧ k' = k then z else H.2.1 p' k')) = _; rw [if_neg h]; rfl
  | 1, .inr (.inr z) => rfl
  | t + 2, .inl z => rfl
  | t + 2, .inr (.inl z) => rfl
  | t + 2, .inr (.inr z) => show Sum.inr (Sum.inr (if p' = p ∧ k' = k then z else H.2.2.1 p' k')) = _; rw [if_neg h]; rfl
theorem yi_wrt_K (H : yi_H) (p k : Nat) (v : yi_V) : (yi_wrt H p k v).2.2.2 = H.2.2.2 := by
  match v with
  | .inl z => rfl
  | .inr (.inl z) => rfl
  | .inr (.inr z) => rfl
theorem yi_cr_ne {H : yi_H} {p k p' : Nat} {v : yi_V} {c : zi_C} (hp : p' ≠ p) (h : yi_cr H p' c) : yi_cr (yi_wrt H p k v) p' c := by
  match c, h with
  | .inl (ci, fs), h =>
    obtain ⟨h1, h2, h3, h4⟩ := h
    refine ⟨by rw [yi_wrt_K]; exact h1, h2, h3, fun k' v' hv => ?_⟩
    rw [yi_rd_ne (fun z => hp z.1)]
    exact h4 k' v' hv
  | .inr (t, n, d, us), h =>
    obtain ⟨h1, h2, h3, h4, h5⟩ := h
    refine ⟨by rw [yi_wrt_K]; exact h1, h2, by rw [yi_wrt_K]; exact h3, h4, fun j hj => ?_⟩
    rw [yi_rd_ne (fun z => hp z.1)]
    exact h5 j hj
theorem yi_hr_set {H : yi_H} {A : List zi_C} {p k : Nat} {v : yi_V} {c : zi_C} (h : yi_hr H A) (hp : 10 ≤ p) (hl : p - 10 < A.length) (hc : yi_cr (yi_wrt H p k v) p c) : yi_hr (yi_wrt H p k v) (A.set (p - 10) c) := by
  refine ⟨by rw [yi_wrt_K, List.length_set]; exact h.1, fun p' hK => ?_⟩
  rw [yi_wrt_K] at hK
  obtain ⟨h1, c', h2, h3⟩ := h.2 p' hK
  refine ⟨h1, ?_⟩
  by_cases hpp : p' = p
  · subst hpp
    exact ⟨c, by simp [hl], hc⟩
  · refine ⟨c', ?_, yi_cr_ne hpp h3⟩
    rw [List.getElem?_set_ne (by omega)]
    exact h2
theorem yi_obj_at {H : yi_H} {A : List zi_C} {p ci : Nat} (h : yi_hr H A) (hK : H.2.2.2.1 p = ci) (hci : ci < 20) : 10 ≤ p ∧ ∃ fs, A[p - 10]? = some (.inl (ci, fs)) ∧ fs.length = (zi_Fs.getD ci ("", [])).2.length ∧ ∀ (k : Nat) (v : zi_V), fs[k]? = some v → yi_vr (yi_rd H (yi_tk (zi_ty ci k)) p k) v := by
  obtain ⟨h1, c, h2, h3⟩ := h.2 p (by omega)
  match c, h3 with
  | .inl (ci', fs), h3 =>
    obtain ⟨e1, e2, e3, e4⟩ := h3
    have : ci' = ci := e1.symm.trans hK
    subst this
    exact ⟨h1, fs, h2, e3, e4⟩
  | .inr (t, n, d, us), h3 =>
    exfalso
    have := h3.1
    omega
theorem yi_arr_at {H : yi_H} {A : List zi_C} {p : Nat} (h : yi_hr H A) (hK : 20 ≤ H.2.2.2.1 p) (hK' : H.2.2.2.1 p ≤ 26) : 10 ≤ p ∧ ∃ t d us, H.2.2.2.1 p = 20 + t ∧ t ≤ 6 ∧ A[p - 10]? = some (.inr (t, H.2.2.2.2.1 p, d, us)) ∧ H.2.2.2.2.1 p ≤ 1000000 ∧ ∀ j, j < H.2.2.2.2.1 p → yi_vr (yi_rd H (zi_tk t) p j) (zi_look d us j) := by
  obtain ⟨h1, c, h2, h3⟩ := h.2 p (by omega)
  match c, h3 with
  | .inl (ci', fs), h3 =>
    exfalso
    obtain ⟨e1, e2, -⟩ := h3
    omega
  | .inr (t, n, d, us), h3 =>
    obtain ⟨e1, e2, e3, e4, e5⟩ := h3
    subst e3
    exact ⟨h1, t, d, us, e1, e2, h2, e4, e5⟩
theorem yi_nw_rd (H : yi_H) (k n t j : Nat) : yi_rd (yi_nw H k n) t H.2.2.2.2.2 j = (match t with | 0 => Sum.inl 0 | 1 => Sum.inr (Sum.inl 0) | _ => Sum.inr (Sum.inr none)) := by
  match t with
  | 0 => show Sum.inl (if H.2.2.2.2.2 = H.2.2.2.2.2 then (0 : Int) else _) = _; rw [if_pos rfl]; rfl
  | 1 => show Sum.inr (Sum.inl (if H.2.2.2.2.2 = H.2.2.2.2.2 then (0 : Int) else _)) = _; rw [if_pos rfl]; rfl
  | t + 2 => show Sum.inr (Sum.inr (if H.2.2.2.2.2 = H.2.2.2.2.2 then none else _)) = _; rw [if_pos rfl]; rfl
theorem yi_nw_rd' (H : yi_H) (k n t j : Nat) {p : Nat} (hp : p ≠ H.2.2.2.2.2) : yi_rd (yi_nw H k n) t p j = yi_rd H t p j := by
  match t with
  | 0 => show Sum.inl (if p = H.2.2.2.2.2 then (0 : Int) else _) = _; rw [if_neg hp]; rfl
  | 1 => show Sum.inr (Sum.inl (if p = H.2.2.2.2.2 then (0 : Int) else _)) = _; rw [if_neg hp]; rfl
  | t + 2 => show Sum.inr (Sum.inr (if p = H.2.2.2.2.2 then none else _)) = _; rw [if_neg hp]; rfl
theorem yi_nw_K (H : yi_H) (k n : Nat) {p : Nat} (hp : p ≠ H.2.2.2.2.2) : (yi_nw H k n).2.2.2.1 p = H.2.2.2.1 p := by
  show (if p = H.2.2.2.2.2 then k else _) = _
  rw [if_neg hp]
theorem yi_nw_N (H : yi_H) (k n : Nat) {p : Nat} (hp : p ≠ H.2.2.2.2.2) : (yi_nw H k n).2.2.2.2.1 p = H.2.2.2.2.1 p := by
  show (if p = H.2.2.2.2.2 then n else _) = _
  rw [if_neg hp]
theorem yi_nw_K0 (H : yi_H) (k n : Nat) : (yi_nw H k n).2.2.2.1 H.2.2.2.2.2 = k := by
  show (if H.2.2.2.2.2 = H.2.2.2.2.2 then k else _) = _
  rw [if_pos rfl]
theorem yi_nw_N0 (H : yi_H) (k n : Nat) : (yi_nw H k n).2.2.2.2.1 H.2.2.2.2.2 = n := by
  show (if H.2.2.2.2.2 = H.2.2.2.2.2 then n else _) = _
  rw [if_pos rfl]
theorem yi_hr_nw {H : yi_H} {A : List zi_C} {k n : Nat} {c : zi_C} (h : yi_hr H A) (hc : yi_cr (yi_nw H k n) H.2.2.2.2.2 c) : yi_hr (yi_nw H k n) (A ++ [c]) := by
  refine ⟨?_, fun p hK => ?_⟩
  · rw [List.length_append]
    show A.length + 1 + 10 = H.2.2.2.2.2 + 1
    have := h.1
    omega
  · by_cases hp : p = H.2.2.2.2.2
    · subst hp
      have h1 := h.1
      refine ⟨by omega, c, ?_, hc⟩
      have e : H.2.2.2.2.2 - 10 = A.length := by omega
      rw [e]
      simp
    · rw [yi_nw_K H k n hp] at hK
      obtain ⟨h1, c', h2, h3⟩ := h.2 p hK
      have hl : p - 10 < A.length := (List.getElem?_eq_some_iff.mp h2).1
      refine ⟨h1, c', by rw [List.getElem?_append_left hl]; exact h2, ?_⟩
      match c', h3 with
      | .inl (ci, fs), h3 =>
        obtain ⟨e1, e2, e3, e4⟩ := h3
        exact ⟨by rw [yi_nw_K H k n hp]; exact e1, e2, e3, fun k' v' hv => by rw [yi_nw_rd' H k n _ _ hp]; exact e4 k' v' hv⟩
      | .inr (t, m, d, us), h3 =>
        obtain ⟨e1, e2, e3, e4, e5⟩ := h3
        exact ⟨by rw [yi_nw_K H k n hp]; exact e1, e2, by rw [yi_nw_N H k n hp]; exact e3, e4, fun j hj => by rw [yi_nw_rd' H k n _ _ hp]; exact e5 j hj⟩
