/-! Engine five: one place alone of some kinds; slots that hold references. -/
def kn_V (pr : Nat → Bool) (N : Nat) (f : Bool) (v : yi_V) : Prop := ∀ q, v = .inr (.inr (some q)) → q < N ∧ (f = false → pr q = false)
def kn_sf (pr : Nat → Bool) (N : Nat) : List Bool → List yi_V → Prop
  | _, [] => True
  | [], v :: st => kn_V pr N false v ∧ kn_sf pr N [] st
  | f :: fl, v :: st => kn_V pr N f v ∧ kn_sf pr N fl st
def kn_al (pr : Nat → Bool) (N : Nat) (dl : Nat → Bool) (al : List (Nat × yi_V)) : Prop := ∀ q ∈ al, kn_V pr N (dl q.1) q.2
/-- of some kinds there is one place alone -/
def kn_u (c p : Nat) : Bool := match c with | 0 => Nat.beq p 10 | 1 => Nat.beq p 11 | 2 => Nat.beq p 12 | 4 => Nat.beq p 34 | 6 => Nat.beq p 44 | 7 => Nat.beq p 46 | 8 => Nat.beq p 49 | 11 => Nat.beq p 82 | _ => true
/-- kinds that are made -/
def kn_nk (c : Nat) : Bool := Nat.beq c 3 || (Nat.beq c 5 || (Nat.beq c 9 || (Nat.beq c 10 || Nat.ble 12 c)))
theorem kn_nk_u {c : Nat} (h : kn_nk c = true) (p : Nat) : kn_u c p = true := by
  match c with
  | 0 => cases h
  | 1 => cases h
  | 2 => cases h
  | 3 => rfl
  | 4 => cases h
  | 5 => rfl
  | 6 => cases h
  | 7 => cases h
  | 8 => cases h
  | 9 => rfl
  | 10 => rfl
  | 11 => cases h
  | c + 12 => rfl
theorem kn_nk_t (t : Nat) : kn_nk (20 + t) = true := by
  unfold kn_nk
  rw [show Nat.ble 12 (20 + t) = true from Nat.ble_eq_true_of_le (by omega), Bool.or_true, Bool.or_true, Bool.or_true, Bool.or_true]
/-- slots that hold references -/
def kn_s (c k : Nat) : Bool := (Nat.ble 24 c && Nat.ble c 26) || (Nat.ble (c + 1) 20 && yi_fit (zi_ty c k) (.inr (.inr none)))
theorem kn_fit {ty : FieldType} {z : Option Nat} (h : yi_fit ty (.inr (.inr z)) = true) : yi_fit ty (.inr (.inr none)) = true := by
  cases ty <;> first | rfl | cases h
def kn_J (u : Nat → Nat → Bool) (H : yi_H) : Prop := (∀ p, 10 ≤ p → p < H.2.2.2.2.2 → u (H.2.2.2.1 p) p = true) ∧ ∀ p k q, p < H.2.2.2.2.2 → H.2.2.1 p k = some q → 10 ≤ p ∧ kn_s (H.2.2.2.1 p) k = true
section KN
variable (pr : Nat → Bool) (ps fg fp u : Nat → Nat → Bool) (fa kw : Bool)
/-- all is bounded; who holds what is guarded: what is guarded itself, slots fg of a kind, arrays if fa -/
def kn_I (H : yi_H) : Prop := (∀ p k q, p < H.2.2.2.2.2 → H.2.2.1 p k = some q → q < H.2.2.2.2.2 ∧ (pr q = true → pr p = true ∨ fg (H.2.2.2.1 p) k = true ∨ (fa = true ∧ 20 ≤ H.2.2.2.1 p))) ∧ (∀ p k, ps p k = true → fp (H.2.2.2.1 p) k = true ∧ p < H.2.2.2.2.2) ∧ (∀ q, pr q = true → q < H.2.2.2.2.2) ∧ 10 ≤ H.2.2.2.2.2 ∧ kn_J u H
def kn_H (H H' : yi_H) : Prop := kn_I pr ps fg fp u fa H' ∧ (∀ p k, (pr p = true ∧ kw = true) ∨ ps p k = true → H'.1 p k = H.1 p k ∧ H'.2.1 p k = H.2.1 p k ∧ H'.2.2.1 p k = H.2.2.1 p k) ∧ (∀ p, p < H.2.2.2.2.2 → H'.2.2.2.1 p = H.2.2.2.1 p ∧ H'.2.2.2.2.1 p = H.2.2.2.2.1 p) ∧ H.2.2.2.2.2 ≤ H'.2.2.2.2.2
def kn_O (dl : Nat → Bool) (np : Nat → Prop) (rd rv : Bool) (fl : List Bool) (H : yi_H) (x : yi_O) : Prop := ∀ y, x = some y → (match y with | .inl g => np g.1 ∧ kn_al pr g.2.2.2.1.2.2.2.2.2 dl g.2.1 ∧ kn_sf pr g.2.2.2.1.2.2.2.2.2 fl g.2.2.1 ∧ kn_H pr ps fg fp u fa kw H g.2.2.2.1 | .inr v => v.isSome = rv ∧ ∀ w, v = some w → kn_V pr H.2.2.2.2.2 rd w)
end KN
section KN
variable {pr : Nat → Bool} {ps fg fp u : Nat → Nat → Bool} {fa kw rd rv f : Bool} {np : Nat → Prop} {dl : Nat → Bool} {fl : List Bool} {N pc n : Nat} {al : List (Nat × yi_V)} {st r : List yi_V} {H H' : yi_H} {nc ns : Nat} {v : yi_V} {x : yi_O}
theorem kn_Vi (z : Int) : kn_V pr N f (.inl z) := fun q e => by cases e
theorem kn_Vl (z : Int) : kn_V pr N f (.inr (.inl z)) := fun q e => by cases e
theorem kn_Vn : kn_V pr N f (.inr (.inr none)) := fun q e => by cases e
theorem kn_V_w {g : Bool} (h : (f && !g) = false) (hv : kn_V pr N f v) : kn_V pr N g v := fun q e => ⟨(hv q e).1, fun hg => (hv q e).2 (by rw [hg, Bool.not_false, Bool.and_true] at h; exact h)⟩
theorem kn_V_N {N' : Nat} (h : N ≤ N') (hv : kn_V pr N f v) : kn_V pr N' f v := fun q e => ⟨Nat.lt_of_lt_of_le (hv q e).1 h, (hv q e).2⟩
theorem kn_sf_n : kn_sf pr N fl [] := by cases fl <;> trivial
theorem kn_sf_h (h : kn_sf pr N fl (v :: st)) : kn_V pr N (fl.headD false) v := by
  cases fl with
  | nil => exact h.1
  | cons f fl => exact h.1
theorem kn_sf_t (h : kn_sf pr N fl (v :: st)) : kn_sf pr N fl.tail st := by
  cases fl with
  | nil => exact h.2
  | cons f fl => exact h.2
theorem kn_sf_g (h : kn_V pr N f v) (h2 : kn_sf pr N fl st) : kn_sf pr N (f :: fl) (v :: st) := ⟨h, h2⟩
theorem kn_H_r (h : kn_I pr ps fg fp u fa H) : kn_H pr ps fg fp u fa kw H H := ⟨h, fun _ _ _ => ⟨rfl, rfl, rfl⟩, fun _ _ => ⟨rfl, rfl⟩, Nat.le_refl _⟩
theorem kn_sf_all : ∀ (fl : List Bool) (st : List yi_V), fl.any id = false → kn_sf pr N fl st → kn_sf pr N [] st
  | _, [], _, _ => trivial
  | [], _ :: _, _, h => h
  | f :: fl, v :: st, e, h => by
    have e : (f || fl.any id) = false := e
    rw [Bool.or_eq_false_iff] at e
    exact ⟨kn_V_w (by rw [e.1]; rfl) h.1, kn_sf_all fl st e.2 h.2⟩
theorem kn_sf_0 : ∀ (fl : List Bool) (st : List yi_V), kn_sf pr N [] st → kn_sf pr N fl st
  | _, [], _ => kn_sf_n
  | [], _ :: _, h => h
  | _ :: fl, _ :: st, h => ⟨kn_V_w rfl h.1, kn_sf_0 fl st h.2⟩
theorem kn_sf_N {N' : Nat} (hN : N ≤ N') : ∀ (fl : List Bool) (st : List yi_V), kn_sf pr N fl st → kn_sf pr N' fl st
  | _, [], _ => kn_sf_n
  | [], _ :: st, h => ⟨kn_V_N hN h.1, kn_sf_N hN [] st h.2⟩
  | _ :: fl, _ :: st, h => ⟨kn_V_N hN h.1, kn_sf_N hN fl st h.2⟩
theorem kn_al_N {N' : Nat} (hN : N ≤ N') (h : kn_al pr N dl al) : kn_al pr N' dl al := fun q hq => kn_V_N hN (h q hq)
theorem kn_sf_get : ∀ (fl : List Bool) (st : List yi_V) (i : Nat) (v : yi_V), kn_sf pr N fl st → st[i]? = some v → kn_V pr N (fl.getD i false) v
  | _, [], i, v, _, e => by cases e
  | fl, w :: st, 0, v, h, e => by
    have e : some w = some v := e
    cases e
    have z := kn_sf_h h
    cases fl with
    | nil => exact z
    | cons a b => exact z
  | fl, w :: st, i + 1, v, h, e => by
    have z := kn_sf_get fl.tail st i v (kn_sf_t h) e
    cases fl with
    | nil => exact z
    | cons a b => exact z
theorem kn_sf_drop : ∀ (k : Nat) (fl : List Bool) (st : List yi_V), kn_sf pr N fl st → kn_sf pr N (fl.drop k) (st.drop k)
  | 0, _, _, h => h
  | k + 1, [], [], _ => trivial
  | k + 1, f :: fl, [], _ => kn_sf_n
  | k + 1, [], _ :: st, h => by
    have := kn_sf_drop k [] st h.2
    rw [List.drop_nil] at this ⊢
    exact this
  | k + 1, f :: fl, _ :: st, h => kn_sf_drop k fl st h.2
theorem kn_al1 {i : Nat} (ha : kn_al pr N dl al) (h : kn_V pr N (dl i) v) : kn_al pr N dl ((i, v) :: yi_del1 i al) := by
  intro q hq
  rcases List.mem_cons.mp hq with z | z
  · subst z; exact h
  · exact ha q (cp_del1 al q z)
theorem kn_al2 {i : Nat} (ha : kn_al pr N dl al) (h : kn_V pr N (dl i) v) : kn_al pr N dl ((i, v) :: yi_del2 i al) := by
  intro q hq
  rcases List.mem_cons.mp hq with z | z
  · subst z; exact h
  · exact ha q (cp_del2 al q z)
theorem kn_kd {k : Nat} (h : Nat.beq (yi_kd v) k = true) (hk : k < 2) : kn_V pr N f v := by
  have h := Nat.eq_of_beq_eq_true h
  intro q e
  subst e
  have h : 2 = k := h
  omega
theorem kn_none {fl' : List Bool} : kn_O pr ps fg fp u fa kw dl np rd rv fl' H none := fun y e => by cases e
theorem kn_bif {fl' : List Bool} {c : Bool} (h : kn_O pr ps fg fp u fa kw dl np rd rv fl' H x) : kn_O pr ps fg fp u fa kw dl np rd rv fl' H (bif c then x else none) := by
  cases c with
  | true => exact h
  | false => exact kn_none
theorem kn_in {fl' : List Bool} {g : yi_F} (hn : np g.1) (ha : kn_al pr g.2.2.2.1.2.2.2.2.2 dl g.2.1) (hs : kn_sf pr g.2.2.2.1.2.2.2.2.2 fl' g.2.2.1) (hh : kn_H pr ps fg fp u fa kw H g.2.2.2.1) : kn_O pr ps fg fp u fa kw dl np rd rv fl' H (some (.inl g)) := fun y e => by
  cases e
  exact ⟨hn, ha, hs, hh⟩
theorem kn_ps (hn : np (pc + n)) (hv : kn_V pr H.2.2.2.2.2 false v) (ha : kn_al pr H.2.2.2.2.2 dl al) (hs : kn_sf pr H.2.2.2.2.2 fl st) (hi : kn_I pr ps fg fp u fa H) : kn_O pr ps fg fp u fa kw dl np rd rv (false :: fl) H (yi_ps pc n al st H nc ns v) := kn_in hn ha (kn_sf_g hv hs) (kn_H_r hi)
theorem kn_ld {i k : Nat} (hk : k < 2) (hn : np (pc + n)) (ha : kn_al pr H.2.2.2.2.2 dl al) (hs : kn_sf pr H.2.2.2.2.2 fl st) (hi : kn_I pr ps fg fp u fa H) : kn_O pr ps fg fp u fa kw dl np rd rv (false :: fl) H (yi_ld pc n al st H nc ns i k) := by
  intro y e
  unfold yi_ld at e
  split at e
  · rename_i w hw
    cases hb : Nat.beq (yi_kd w) k with
    | true => rw [hb] at e; cases e; exact ⟨hn, ha, kn_sf_g (kn_kd hb hk) hs, kn_H_r hi⟩
    | false => rw [hb] at e; cases e
  · cases e
theorem kn_lda {i : Nat} (hn : np (pc + n)) (ha : kn_al pr H.2.2.2.2.2 dl al) (hs : kn_sf pr H.2.2.2.2.2 fl st) (hi : kn_I pr ps fg fp u fa H) : kn_O pr ps fg fp u fa kw dl np rd rv (dl i :: fl) H (yi_lda pc n al st H nc ns i) := by
  intro y e
  unfold yi_lda at e
  split at e
  · rename_i w hw
    cases hb : Nat.ble 2 (yi_kd w) with
    | true => rw [hb] at e; cases e; exact ⟨hn, ha, kn_sf_g (ha _ (cp_loc al hw)) hs, kn_H_r hi⟩
    | false => rw [hb] at e; cases e
  · cases e
theorem kn_sti {i nL : Nat} (hn : np (pc + n)) (ha : kn_al pr H.2.2.2.2.2 dl al) (hs : kn_sf pr H.2.2.2.2.2 fl st) (hi : kn_I pr ps fg fp u fa H) : kn_O pr ps fg fp u fa kw dl np rd rv (fl.tail) H (yi_sti pc n al st H nc ns nL i) := by
  intro y e
  unfold yi_sti at e
  split at e
  · rename_i w r
    cases hb : (Nat.beq (yi_kd w) 0 && Nat.ble (i + 1) nL) with
    | true => rw [hb] at e; cases e; rw [Bool.and_eq_true] at hb; exact ⟨hn, kn_al1 ha (kn_kd hb.1 (by omega)), kn_sf_t hs, kn_H_r hi⟩
    | false => rw [hb] at e; cases e
  · cases e
theorem kn_stl {i nL : Nat} (hn : np (pc + n)) (ha : kn_al pr H.2.2.2.2.2 dl al) (hs : kn_sf pr H.2.2.2.2.2 fl st) (hi : kn_I pr ps fg fp u fa H) : kn_O pr ps fg fp u fa kw dl np rd rv (fl.tail) H (yi_stl pc n al st H nc ns nL i) := by
  intro y e
  unfold yi_stl at e
  split at e
  · rename_i w r
    cases hb : (Nat.beq (yi_kd w) 1 && Nat.ble (i + 2) nL) with
    | true => rw [hb] at e; cases e; rw [Bool.and_eq_true] at hb; exact ⟨hn, kn_al2 ha (kn_kd hb.1 (by omega)), kn_sf_t hs, kn_H_r hi⟩
    | false => rw [hb] at e; cases e
  · cases e
theorem kn_sta {i nL : Nat} (hc : (fl.headD false && !(dl i)) = false) (hn : np (pc + n)) (ha : kn_al pr H.2.2.2.2.2 dl al) (hs : kn_sf pr H.2.2.2.2.2 fl st) (hi : kn_I pr ps fg fp u fa H) : kn_O pr ps fg fp u fa kw dl np rd rv (fl.tail) H (yi_sta pc n al st H nc ns nL i) := by
  intro y e
  unfold yi_sta at e
  split at e
  · rename_i w r
    cases hb : (Nat.ble 2 (yi_kd w) && Nat.ble (i + 1) nL) with
    | true => rw [hb] at e; cases e; exact ⟨hn, kn_al1 ha (kn_V_w hc (kn_sf_h hs)), kn_sf_t hs, kn_H_r hi⟩
    | false => rw [hb] at e; cases e
  · cases e
theorem kn_inc {i nL : Nat} {kk : Int} (hn : np (pc + n)) (ha : kn_al pr H.2.2.2.2.2 dl al) (hs : kn_sf pr H.2.2.2.2.2 fl st) (hi : kn_I pr ps fg fp u fa H) : kn_O pr ps fg fp u fa kw dl np rd rv (fl) H (yi_inc pc n al st H nc ns nL i kk) := by
  intro y e
  unfold yi_inc at e
  split at e
  · rename_i w hw
    cases hb : Nat.ble (i + 1) nL with
    | true => rw [hb] at e; cases e; exact ⟨hn, kn_al1 ha (kn_Vi _), hs, kn_H_r hi⟩
    | false => rw [hb] at e; cases e
  · cases e
theorem kn_ii {op : Int → Int → Int} (hn : np (pc + n)) (ha : kn_al pr H.2.2.2.2.2 dl al) (hs : kn_sf pr H.2.2.2.2.2 fl st) (hi : kn_I pr ps fg fp u fa H) : kn_O pr ps fg fp u fa kw dl np rd rv (false :: fl.tail.tail) H (yi_ii pc n al st H nc ns op) := by
  intro y e
  unfold yi_ii at e
  split at e
  · cases e
    exact ⟨hn, ha, kn_sf_g (kn_Vi _) (kn_sf_t (kn_sf_t hs)), kn_H_r hi⟩
  · cases e
theorem kn_iz {op : Int → Int → Int} (hn : np (pc + n)) (ha : kn_al pr H.2.2.2.2.2 dl al) (hs : kn_sf pr H.2.2.2.2.2 fl st) (hi : kn_I pr ps fg fp u fa H) : kn_O pr ps fg fp u fa kw dl np rd rv (false :: fl.tail.tail) H (yi_iz pc n al st H nc ns op) := by
  intro y e
  unfold yi_iz at e
  split at e
  · rename_i yy xx r
    cases hb : decide (yy = 0) with
    | true => rw [hb] at e; cases e
    | false => rw [hb] at e; cases e; exact ⟨hn, ha, kn_sf_g (kn_Vi _) (kn_sf_t (kn_sf_t hs)), kn_H_r hi⟩
  · cases e
theorem kn_ll {op : Int → Int → Int} (hn : np (pc + n)) (ha : kn_al pr H.2.2.2.2.2 dl al) (hs : kn_sf pr H.2.2.2.2.2 fl st) (hi : kn_I pr ps fg fp u fa H) : kn_O pr ps fg fp u fa kw dl np rd rv (false :: fl.tail.tail) H (yi_ll pc n al st H nc ns op) := by
  intro y e
  unfold yi_ll at e
  split at e
  · cases e
    exact ⟨hn, ha, kn_sf_g (kn_Vl _) (kn_sf_t (kn_sf_t hs)), kn_H_r hi⟩
  · cases e
theorem kn_lz {op : Int → Int → Int} (hn : np (pc + n)) (ha : kn_al pr H.2.2.2.2.2 dl al) (hs : kn_sf pr H.2.2.2.2.2 fl st) (hi : kn_I pr ps fg fp u fa H) : kn_O pr ps fg fp u fa kw dl np rd rv (false :: fl.tail.tail) H (yi_lz pc n al st H nc ns op) := by
  intro y e
  unfold yi_lz at e
  split at e
  · rename_i yy xx r
    cases hb : decide (yy = 0) with
    | true => rw [hb] at e; cases e
    | false => rw [hb] at e; cases e; exact ⟨hn, ha, kn_sf_g (kn_Vl _) (kn_sf_t (kn_sf_t hs)), kn_H_r hi⟩
  · cases e
theorem kn_lc (hn : np (pc + n)) (ha : kn_al pr H.2.2.2.2.2 dl al) (hs : kn_sf pr H.2.2.2.2.2 fl st) (hi : kn_I pr ps fg fp u fa H) : kn_O pr ps fg fp u fa kw dl np rd rv (false :: fl.tail.tail) H (yi_lc pc n al st H nc ns) := by
  intro y e
  unfold yi_lc at e
  split at e
  · cases e
    exact ⟨hn, ha, kn_sf_g (kn_Vi _) (kn_sf_t (kn_sf_t hs)), kn_H_r hi⟩
  · cases e
theorem kn_lw {op : Int → Int → Int} (hn : np (pc + n)) (ha : kn_al pr H.2.2.2.2.2 dl al) (hs : kn_sf pr H.2.2.2.2.2 fl st) (hi : kn_I pr ps fg fp u fa H) : kn_O pr ps fg fp u fa kw dl np rd rv (false :: fl.tail.tail) H (yi_lw pc n al st H nc ns op) := by
  intro y e
  unfold yi_lw at e
  split at e
  · cases e
    exact ⟨hn, ha, kn_sf_g (kn_Vl _) (kn_sf_t (kn_sf_t hs)), kn_H_r hi⟩
  · cases e
theorem kn_i1 {op : Int → yi_V} (ho : ∀ z, kn_V pr H.2.2.2.2.2 false (op z)) (hn : np (pc + n)) (ha : kn_al pr H.2.2.2.2.2 dl al) (hs : kn_sf pr H.2.2.2.2.2 fl st) (hi : kn_I pr ps fg fp u fa H) : kn_O pr ps fg fp u fa kw dl np rd rv (false :: fl.tail) H (yi_i1 pc n al st H nc ns op) := by
  intro y e
  unfold yi_i1 at e
  split at e
  · cases e
    exact ⟨hn, ha, kn_sf_g (ho _) (kn_sf_t hs), kn_H_r hi⟩
  · cases e
theorem kn_l1 {op : Int → yi_V} (ho : ∀ z, kn_V pr H.2.2.2.2.2 false (op z)) (hn : np (pc + n)) (ha : kn_al pr H.2.2.2.2.2 dl al) (hs : kn_sf pr H.2.2.2.2.2 fl st) (hi : kn_I pr ps fg fp u fa H) : kn_O pr ps fg fp u fa kw dl np rd rv (false :: fl.tail) H (yi_l1 pc n al st H nc ns op) := by
  intro y e
  unfold yi_l1 at e
  split at e
  · cases e
    exact ⟨hn, ha, kn_sf_g (ho _) (kn_sf_t hs), kn_H_r hi⟩
  · cases e
theorem kn_dup (hn : np (pc + n)) (ha : kn_al pr H.2.2.2.2.2 dl al) (hs : kn_sf pr H.2.2.2.2.2 fl st) (hi : kn_I pr ps fg fp u fa H) : kn_O pr ps fg fp u fa kw dl np rd rv (fl.headD false :: fl) H (yi_dup pc n al st H nc ns) := by
  intro y e
  unfold yi_dup at e
  split at e
  · rename_i w r
    cases hb : Nat.beq (yi_cat w) 1 with
    | true => rw [hb] at e; cases e; exact ⟨hn, ha, kn_sf_g (kn_sf_h hs) hs, kn_H_r hi⟩
    | false => rw [hb] at e; cases e
  · cases e
theorem kn_pop (hn : np (pc + n)) (ha : kn_al pr H.2.2.2.2.2 dl al) (hs : kn_sf pr H.2.2.2.2.2 fl st) (hi : kn_I pr ps fg fp u fa H) : kn_O pr ps fg fp u fa kw dl np rd rv (fl.tail) H (yi_pop pc n al st H nc ns) := by
  intro y e
  unfold yi_pop at e
  split at e
  · rename_i w r
    cases hb : Nat.beq (yi_cat w) 1 with
    | true => rw [hb] at e; cases e; exact ⟨hn, ha, kn_sf_t hs, kn_H_r hi⟩
    | false => rw [hb] at e; cases e
  · cases e
theorem kn_dup2 (hc : fl.any id = false) (hn : np (pc + n)) (ha : kn_al pr H.2.2.2.2.2 dl al) (hs : kn_sf pr H.2.2.2.2.2 fl st) (hi : kn_I pr ps fg fp u fa H) : kn_O pr ps fg fp u fa kw dl np rd rv ([]) H (yi_dup2 pc n al st H nc ns) := by
  intro y e
  unfold yi_dup2 at e
  have hs := kn_sf_all fl st hc hs
  split at e
  · rename_i w z r _
    cases hb : Nat.beq (yi_cat w) 2 with
    | true => rw [hb] at e; cases e; exact ⟨hn, ha, ⟨hs.1, hs.1, hs.2.1, hs.2.2⟩, kn_H_r hi⟩
    | false =>
      rw [hb] at e
      dsimp only [cond_false] at e
      cases hb2 : Nat.beq (yi_cat z) 1 with
      | true => rw [hb2] at e; cases e; exact ⟨hn, ha, ⟨hs.1, hs.2.1, hs.1, hs.2.1, hs.2.2⟩, kn_H_r hi⟩
      | false => rw [hb2] at e; cases e
  · cases e
theorem kn_n2 {t : Nat} (hn : np (pc + n)) (ht : np t) (c : Bool) : np (bif c then t else pc + n) := by cases c with | true => exact ht | false => exact hn
theorem kn_if1 {c : ClassFile.Cond} {t : Nat} (hn : np (pc + n)) (ht : np t) (ha : kn_al pr H.2.2.2.2.2 dl al) (hs : kn_sf pr H.2.2.2.2.2 fl st) (hi : kn_I pr ps fg fp u fa H) : kn_O pr ps fg fp u fa kw dl np rd rv (fl.tail) H (yi_if1 pc n al st H nc ns c t) := by
  intro y e
  unfold yi_if1 at e
  split at e
  · cases e
    exact ⟨kn_n2 hn ht _, ha, kn_sf_t hs, kn_H_r hi⟩
  · cases e
theorem kn_if2 {c : ClassFile.Cond} {t : Nat} (hn : np (pc + n)) (ht : np t) (ha : kn_al pr H.2.2.2.2.2 dl al) (hs : kn_sf pr H.2.2.2.2.2 fl st) (hi : kn_I pr ps fg fp u fa H) : kn_O pr ps fg fp u fa kw dl np rd rv (fl.tail.tail) H (yi_if2 pc n al st H nc ns c t) := by
  intro y e
  unfold yi_if2 at e
  split at e
  · cases e
    exact ⟨kn_n2 hn ht _, ha, kn_sf_t (kn_sf_t hs), kn_H_r hi⟩
  · cases e
theorem kn_nul {b : Bool} {t : Nat} (hn : np (pc + n)) (ht : np t) (ha : kn_al pr H.2.2.2.2.2 dl al) (hs : kn_sf pr H.2.2.2.2.2 fl st) (hi : kn_I pr ps fg fp u fa H) : kn_O pr ps fg fp u fa kw dl np rd rv (fl.tail) H (yi_nul pc n al st H nc ns b t) := by
  intro y e
  unfold yi_nul at e
  split at e
  · cases e
    exact ⟨kn_n2 hn ht _, ha, kn_sf_t hs, kn_H_r hi⟩
  · cases e
    exact ⟨kn_n2 hn ht _, ha, kn_sf_t hs, kn_H_r hi⟩
  · cases e
theorem kn_tsw {lo hh : Int} {o : List Nat} (hn : ∀ m, np m) (ha : kn_al pr H.2.2.2.2.2 dl al) (hs : kn_sf pr H.2.2.2.2.2 fl st) (hi : kn_I pr ps fg fp u fa H) : kn_O pr ps fg fp u fa kw dl np rd rv (fl.tail) H (yi_tsw al st H nc ns lo hh o) := by
  intro y e
  unfold yi_tsw at e
  split at e
  · rename_i z r d ts
    cases hb : (decide (z < lo) || decide (hh < z)) with
    | true => rw [hb] at e; cases e; exact ⟨hn _, ha, kn_sf_t hs, kn_H_r hi⟩
    | false =>
      rw [hb] at e
      dsimp only [cond_false] at e
      split at e
      · cases e; exact ⟨hn _, ha, kn_sf_t hs, kn_H_r hi⟩
      · cases e
  · cases e
theorem kn_lsw {d : Int} {pp : List (Int × Int)} (hn : ∀ m, np m) (ha : kn_al pr H.2.2.2.2.2 dl al) (hs : kn_sf pr H.2.2.2.2.2 fl st) (hi : kn_I pr ps fg fp u fa H) : kn_O pr ps fg fp u fa kw dl np rd rv (fl.tail) H (yi_lsw pc al st H nc ns d pp) := by
  intro y e
  unfold yi_lsw at e
  split at e
  · rename_i z r
    cases hb : decide (0 ≤ (pc : Int) + Op.lookupswitch.offset pp d z) with
    | true => rw [hb] at e; cases e; exact ⟨hn _, ha, kn_sf_t hs, kn_H_r hi⟩
    | false => rw [hb] at e; cases e
  · cases e
theorem kn_rdV {t p k : Nat} (h : 2 ≤ t → ∀ q, H.2.2.1 p k = some q → q < N ∧ (f = false → pr q = false)) : kn_V pr N f (yi_rd H t p k) := by
  intro q hq
  match t with
  | 0 =>
    have hq : (Sum.inl (H.1 p k) : yi_V) = .inr (.inr (some q)) := hq
    cases hq
  | 1 =>
    have hq : (Sum.inr (Sum.inl (H.2.1 p k)) : yi_V) = .inr (.inr (some q)) := hq
    cases hq
  | t + 2 => exact h (by omega) q (Sum.inr.inj (Sum.inr.inj hq))
theorem kn_get {ci k : Nat} (h10 : ∀ q, pr q = true → 10 ≤ q) (hn : np (pc + n)) (ha : kn_al pr H.2.2.2.2.2 dl al) (hs : kn_sf pr H.2.2.2.2.2 fl st) (hi : kn_I pr ps fg fp u fa H) : kn_O pr ps fg fp u fa kw dl np rd rv ((Nat.ble 2 (yi_tk (zi_ty ci k)) && (fl.headD false || fg ci k)) :: fl.tail) H (yi_get pc n al st H nc ns ci k) := by
  intro y e
  unfold yi_get at e
  split at e
  · rename_i p rest
    cases h1 : Nat.ble 10 p with
    | true =>
      rw [h1] at e
      dsimp only [cond_true] at e
      cases h2 : (Nat.beq (H.2.2.2.1 p) ci && Nat.ble (k + 1) (zi_Fs.getD ci ("", [])).2.length && Nat.ble (ci + 1) 20) with
      | true =>
        rw [h2] at e
        cases e
        rw [Bool.and_eq_true, Bool.and_eq_true] at h2
        have hk := Nat.eq_of_beq_eq_true h2.1.1
        have h20 := Nat.le_of_ble_eq_true h2.2
        have hp := kn_sf_h hs p rfl
        refine ⟨hn, ha, kn_sf_g (kn_rdV (fun ht q hr => ⟨(hi.1 p k q hp.1 hr).1, fun hf => ?_⟩)) (kn_sf_t hs), kn_H_r hi⟩
        rw [Nat.ble_eq_true_of_le ht, Bool.true_and, Bool.or_eq_false_iff] at hf
        cases hpq : pr q with
        | false => rfl
        | true =>
          exfalso
          rcases (hi.1 p k q hp.1 hr).2 hpq with z | z | z
          · rw [hp.2 hf.1] at z
            cases z
          · rw [hk, hf.2] at z
            cases z
          · have := z.2
            omega
      | false => rw [h2] at e; cases e
    | false =>
      rw [h1] at e
      dsimp only [cond_false] at e
      cases h2 : (Nat.ble (p + 1) 4 && Nat.beq ci 100) with
      | false => rw [h2] at e; cases e
      | true =>
        rw [h2] at e
        dsimp only [cond_true] at e
        rw [Bool.and_eq_true] at h2
        have hp4 := Nat.le_of_ble_eq_true h2.1
        cases h3 : Nat.beq k 0 with
        | true =>
          rw [h3] at e
          cases e
          refine ⟨hn, ha, kn_sf_g (fun q hq => ?_) (kn_sf_t hs), kn_H_r hi⟩
          have hq : some (4 + p) = some q := Sum.inr.inj (Sum.inr.inj hq)
          cases hq
          refine ⟨(show 4 + p < H.2.2.2.2.2 by have := hi.2.2.2.1; omega), fun _ => ?_⟩
          cases hp : pr (4 + p) with
          | false => rfl
          | true => have := h10 _ hp; omega
        | false =>
          rw [h3] at e
          dsimp only [cond_false] at e
          cases h4 : Nat.beq k 1 with
          | true => rw [h4] at e; cases e; exact ⟨hn, ha, kn_sf_g (kn_Vi _) (kn_sf_t hs), kn_H_r hi⟩
          | false => rw [h4] at e; cases e
  · cases e
/-- a write leaves what is guarded -/
theorem kn_wrt {p k : Nat} (hi : kn_I pr ps fg fp u fa H) (hp : p < H.2.2.2.2.2 ∧ (kw = true → pr p = false)) (hv : kn_V pr H.2.2.2.2.2 f v) (hv2 : f = false ∨ fg (H.2.2.2.1 p) k = true ∨ (fa = true ∧ 20 ≤ H.2.2.2.1 p)) (hps : ps p k = false) (hj : ∀ z, v = .inr (.inr z) → 10 ≤ p ∧ kn_s (H.2.2.2.1 p) k = true) : kn_H pr ps fg fp u fa kw H (yi_wrt H p k v) := by
  have hne : ∀ p' k', (pr p' = true ∧ kw = true) ∨ ps p' k' = true → ¬ (p' = p ∧ k' = k) := fun p' k' h e => by
    rcases h with h | h
    · rw [e.1, hp.2 h.2] at h; cases h.1
    · rw [e.1, e.2, hps] at h; cases h
  cases v with
  | inl z => exact ⟨hi, fun p' k' h => ⟨if_neg (hne p' k' h), rfl, rfl⟩, fun _ _ => ⟨rfl, rfl⟩, Nat.le_refl _⟩
  | inr w =>
    cases w with
    | inl z => exact ⟨hi, fun p' k' h => ⟨rfl, if_neg (hne p' k' h), rfl⟩, fun _ _ => ⟨rfl, rfl⟩, Nat.le_refl _⟩
    | inr z =>
      have hJw : kn_J u (yi_wrt H p k (.inr (.inr z))) := ⟨hi.2.2.2.2.1, fun p' k' q hp' e => by
        have e : (if p' = p ∧ k' = k then z else H.2.2.1 p' k') = some q := e
        by_cases c : p' = p ∧ k' = k
        · have w := hj z rfl
          rw [c.1, c.2]
          exact w
        · rw [if_neg c] at e
          exact hi.2.2.2.2.2 p' k' q hp' e⟩
      refine ⟨⟨fun p' k' q hp' e => ?_, hi.2.1, hi.2.2.1, hi.2.2.2.1, hJw⟩, fun p' k' h => ⟨rfl, rfl, if_neg (hne p' k' h)⟩, fun _ _ => ⟨rfl, rfl⟩, Nat.le_refl _⟩
      have e : (if p' = p ∧ k' = k then z else H.2.2.1 p' k') = some q := e
      by_cases c : p' = p ∧ k' = k
      · rw [if_pos c] at e
        subst e
        have hq := hv q rfl
        refine ⟨hq.1, fun hq2 => ?_⟩
        rcases hv2 with hv2 | hv2
        · rw [hq.2 hv2] at hq2
          cases hq2
        · right
          rw [c.1, c.2]
          exact hv2
      · rw [if_neg c] at e
        exact hi.1 p' k' q hp' e
theorem kn_tg {g : Bool} {p : Nat} (hc : (g && kw) = false) (h : kn_V pr N g (.inr (.inr (some p)))) : p < N ∧ (kw = true → pr p = false) := ⟨(h p rfl).1, fun hk => (h p rfl).2 (by rw [hk, Bool.and_true] at hc; exact hc)⟩
theorem kn_put {ci k : Nat} (hc : ((fl.headD false && !(fg ci k)) || (fl.tail.headD false && kw) || fp ci k) = false) (hn : np (pc + n)) (ha : kn_al pr H.2.2.2.2.2 dl al) (hs : kn_sf pr H.2.2.2.2.2 fl st) (hi : kn_I pr ps fg fp u fa H) : kn_O pr ps fg fp u fa kw dl np rd rv (fl.tail.tail) H (yi_put pc n al st H nc ns ci k) := by
  intro y e
  unfold yi_put at e
  split at e
  · rename_i w p rest
    rw [Bool.or_eq_false_iff, Bool.or_eq_false_iff] at hc
    cases h2 : (Nat.ble 10 p && (Nat.beq (H.2.2.2.1 p) ci && Nat.ble (k + 1) (zi_Fs.getD ci ("", [])).2.length && Nat.ble (ci + 1) 20 && yi_fit (zi_ty ci k) w)) with
    | false => rw [h2] at e; cases e
    | true =>
      rw [h2] at e
      cases e
      rw [Bool.and_eq_true, Bool.and_eq_true, Bool.and_eq_true, Bool.and_eq_true] at h2
      have hk := Nat.eq_of_beq_eq_true h2.2.1.1.1
      have hw : kn_H pr ps fg fp u fa kw H (yi_wrt H p k w) := by
        refine kn_wrt hi (kn_tg hc.1.2 (kn_sf_h (kn_sf_t hs))) (kn_sf_h hs) ?_ ?_ (fun z e => by
          have h2b := h2.2.2
          rw [e] at h2b
          have h2c := h2.2.1.2
          refine ⟨Nat.le_of_ble_eq_true h2.1, ?_⟩
          unfold kn_s
          rw [hk, h2c, kn_fit h2b]
          exact Bool.or_true _)
        · cases hg : fg ci k with
          | true => rw [hk]; exact Or.inr (Or.inl hg)
          | false =>
            have hc := hc.1.1
            rw [hg, Bool.not_false, Bool.and_true] at hc
            exact Or.inl hc
        · cases hp : ps p k with
          | false => rfl
          | true =>
            have a := (hi.2.1 p k hp).1
            rw [hk, hc.2] at a
            cases a
      exact ⟨hn, kn_al_N hw.2.2.2 ha, kn_sf_N hw.2.2.2 _ _ (kn_sf_t (kn_sf_t hs)), hw⟩
  · cases e
theorem kn_gts {k : Nat} (hn : np (pc + n)) (ha : kn_al pr H.2.2.2.2.2 dl al) (hs : kn_sf pr H.2.2.2.2.2 fl st) (hi : kn_I pr ps fg fp u fa H) : kn_O pr ps fg fp u fa kw dl np rd rv (false :: fl) H (yi_gts pc n al st H nc ns k) := by
  intro y e
  unfold yi_gts at e
  split at e
  · cases e
    exact ⟨hn, ha, kn_sf_g (kn_Vi _) hs, kn_H_r hi⟩
  · cases e
theorem kn_len (hn : np (pc + n)) (ha : kn_al pr H.2.2.2.2.2 dl al) (hs : kn_sf pr H.2.2.2.2.2 fl st) (hi : kn_I pr ps fg fp u fa H) : kn_O pr ps fg fp u fa kw dl np rd rv (false :: fl.tail) H (yi_len pc n al st H nc ns []) := by
  intro y e
  unfold yi_len at e
  split at e
  · rename_i p rest
    have key : ∀ z : Int, kn_O pr ps fg fp u fa kw dl np rd rv (false :: fl.tail) H (some (.inl (pc + n, al, .inl z :: rest, H, nc, ns))) := fun z => kn_in hn ha (kn_sf_g (kn_Vi _) (kn_sf_t hs)) (kn_H_r hi)
    cases h1 : Nat.ble 10 p with
    | true => rw [h1] at e; exact kn_bif (key _) y e
    | false =>
      rw [h1] at e
      dsimp only [cond_false] at e
      cases h2 : Nat.beq p 8 with
      | true => rw [h2] at e; cases e
      | false => rw [h2] at e; exact kn_bif (key _) y e
  · cases e
theorem kn_ald {t : Nat} {fr : Bool} (hfr : (zi_tk t = 0 ∨ zi_tk t = 1) ∨ fr = (fl.tail.headD false || fa)) (hn : np (pc + n)) (hfg : ∀ c k, fg c k = true → c < 20 ∨ 26 < c) (ha : kn_al pr H.2.2.2.2.2 dl al) (hs : kn_sf pr H.2.2.2.2.2 fl st) (hi : kn_I pr ps fg fp u fa H) : kn_O pr ps fg fp u fa kw dl np rd rv (fr :: fl.tail.tail) H (yi_ald pc n al st H nc ns t []) := by
  intro y e
  unfold yi_ald at e
  split at e
  · rename_i z p rest
    have key : ∀ w : yi_V, kn_V pr H.2.2.2.2.2 fr w → kn_O pr ps fg fp u fa kw dl np rd rv (fr :: fl.tail.tail) H (some (.inl (pc + n, al, w :: rest, H, nc, ns))) := fun w hw => kn_in hn ha (kn_sf_g hw (kn_sf_t (kn_sf_t hs))) (kn_H_r hi)
    cases h1 : Nat.ble 10 p with
    | true =>
      rw [h1] at e
      dsimp only [cond_true] at e
      cases h2 : (((Nat.beq (H.2.2.2.1 p) (20 + t) && Nat.ble t 6) || (Nat.beq t 7 && Nat.ble 24 (H.2.2.2.1 p) && Nat.ble (H.2.2.2.1 p) 26)) && decide (0 ≤ z) && decide (z < H.2.2.2.2.1 p)) with
      | false => rw [h2] at e; cases e
      | true =>
        rw [h2] at e
        have hp := kn_sf_h (kn_sf_t hs) p rfl
        refine key _ (kn_rdV (fun ht q hr => ⟨(hi.1 p _ q hp.1 hr).1, fun hf => ?_⟩)) y e
        rcases hfr with hfr | hfr
        · omega
        · rw [hf] at hfr
          have hf := Bool.or_eq_false_iff.mp hfr.symm
          cases hpq : pr q with
          | false => rfl
          | true =>
            exfalso
            rcases (hi.1 p _ q hp.1 hr).2 hpq with w | w | w
            · rw [hp.2 hf.1] at w
              cases w
            · have h5 := hfg _ _ w
              rw [Bool.and_eq_true, Bool.and_eq_true, Bool.or_eq_true, Bool.and_eq_true, Bool.and_eq_true, Bool.and_eq_true] at h2
              rcases h2.1.1 with c | c
              · have := Nat.eq_of_beq_eq_true c.1
                have := Nat.le_of_ble_eq_true c.2
                omega
              · have := Nat.le_of_ble_eq_true c.1.2
                have := Nat.le_of_ble_eq_true c.2
                omega
            · rw [hf.2] at w
              exact absurd w.1 Bool.false_ne_true
    | false =>
      rw [h1] at e
      dsimp only [cond_false] at e
      cases h2 : (Nat.beq p 8 && Nat.beq t 0 && decide (0 ≤ z) && decide (z < ([] : List Int).length)) with
      | true => rw [h2] at e; exact key _ (kn_Vi _) y e
      | false => rw [h2] at e; exact kn_bif (key _ (kn_Vi _)) y e
  · cases e
theorem kn_ast {t : Nat} (h5 : ∀ c k, fp c k = true → c < 20) (hc : (fl.tail.tail.headD false && kw) = false) (hn : np (pc + n)) (ha : kn_al pr H.2.2.2.2.2 dl al) (hs : kn_sf pr H.2.2.2.2.2 fl st) (hi : kn_I pr ps fg fp u fa H) : kn_O pr ps fg fp u fa kw dl np rd rv (fl.tail.tail.tail) H (yi_ast pc n al st H nc ns t) := by
  intro y e
  unfold yi_ast at e
  split at e
  · rename_i w z p rest
    cases h2 : (Nat.ble 10 p && Nat.beq (H.2.2.2.1 p) (20 + t) && Nat.ble t 3 && decide (0 ≤ z) && decide (z < H.2.2.2.2.1 p) && yi_fit (zi_ft t) w) with
    | false => rw [h2] at e; cases e
    | true =>
      rw [h2] at e
      cases e
      rw [Bool.and_eq_true, Bool.and_eq_true, Bool.and_eq_true, Bool.and_eq_true, Bool.and_eq_true] at h2
      have hk := Nat.eq_of_beq_eq_true h2.1.1.1.1.2
      have ht := Nat.le_of_ble_eq_true h2.1.1.1.2
      have hw : kn_H pr ps fg fp u fa kw H (yi_wrt H p z.toNat w) := by
        refine kn_wrt (f := false) hi (kn_tg hc (kn_sf_h (kn_sf_t (kn_sf_t hs)))) ?_ (Or.inl rfl) ?_ (fun z e => by
          subst e
          have h2 := h2.2
          have : t = 0 ∨ t = 1 ∨ t = 2 ∨ t = 3 := by omega
          rcases this with e | e | e | e <;> (subst e; cases h2))
        · intro q hq
          subst hq
          have h2 := h2.2
          have : t = 0 ∨ t = 1 ∨ t = 2 ∨ t = 3 := by omega
          rcases this with e | e | e | e <;> (subst e; cases h2)
        · cases hp : ps p z.toNat with
          | false => rfl
          | true =>
            have a := h5 _ _ (hi.2.1 p _ hp).1
            omega
      exact ⟨hn, kn_al_N hw.2.2.2 ha, kn_sf_N hw.2.2.2 _ _ (kn_sf_t (kn_sf_t (kn_sf_t hs))), hw⟩
  · cases e
theorem kn_aas (h5 : ∀ c k, fp c k = true → c < 20) (hc : ((fl.tail.tail.headD false && kw) || (fl.headD false && !fa)) = false) (hn : np (pc + n)) (ha : kn_al pr H.2.2.2.2.2 dl al) (hs : kn_sf pr H.2.2.2.2.2 fl st) (hi : kn_I pr ps fg fp u fa H) : kn_O pr ps fg fp u fa kw dl np rd rv (fl.tail.tail.tail) H (yi_aas pc n al st H nc ns) := by
  intro y e
  unfold yi_aas at e
  rw [Bool.or_eq_false_iff] at hc
  split at e
  · rename_i w z p rest
    cases h2 : (Nat.ble 10 p && Nat.ble 24 (H.2.2.2.1 p) && Nat.ble (H.2.2.2.1 p) 26 && decide (0 ≤ z) && decide (z < H.2.2.2.2.1 p) && yi_nz H (H.2.2.2.1 p) w) with
    | false => rw [h2] at e; cases e
    | true =>
      rw [h2] at e
      cases e
      rw [Bool.and_eq_true, Bool.and_eq_true, Bool.and_eq_true, Bool.and_eq_true, Bool.and_eq_true] at h2
      have hk := Nat.le_of_ble_eq_true h2.1.1.1.1.2
      have hw : kn_H pr ps fg fp u fa kw H (yi_wrt H p z.toNat (.inr (.inr w))) := by
        refine kn_wrt hi (kn_tg hc.1 (kn_sf_h (kn_sf_t (kn_sf_t hs)))) (kn_sf_h hs) ?_ ?_ (fun z e => by
          refine ⟨Nat.le_of_ble_eq_true h2.1.1.1.1.1, ?_⟩
          unfold kn_s
          rw [h2.1.1.1.1.2, h2.1.1.1.2]
          rfl)
        · cases hg : fa with
          | true => exact Or.inr (Or.inr ⟨rfl, by omega⟩)
          | false =>
            have hc := hc.2
            rw [hg, Bool.not_false, Bool.and_true] at hc
            exact Or.inl hc
        · cases hp : ps p z.toNat with
          | false => rfl
          | true =>
            have a := h5 _ _ (hi.2.1 p _ hp).1
            omega
      exact ⟨hn, kn_al_N hw.2.2.2 ha, kn_sf_N hw.2.2.2 _ _ (kn_sf_t (kn_sf_t (kn_sf_t hs))), hw⟩
  · cases e
theorem kn_nw {k m : Nat} (hnk : ∀ p, 10 ≤ p → u k p = true) (hi : kn_I pr ps fg fp u fa H) : kn_H pr ps fg fp u fa kw H (yi_nw H k m) := by
  have hJn : kn_J u (yi_nw H k m) := ⟨fun p h10 hp => by
    have hp : p < H.2.2.2.2.2 + 1 := hp
    show u (if p = H.2.2.2.2.2 then k else H.2.2.2.1 p) p = true
    by_cases c1 : p = H.2.2.2.2.2
    · rw [if_pos c1]
      exact hnk p h10
    · rw [if_neg c1]
      exact hi.2.2.2.2.1 p h10 (by omega), fun p k' q hp e => by
    have hp : p < H.2.2.2.2.2 + 1 := hp
    have e : (if p = H.2.2.2.2.2 then none else H.2.2.1 p k') = some q := e
    show 10 ≤ p ∧ kn_s (if p = H.2.2.2.2.2 then k else H.2.2.2.1 p) k' = true
    by_cases c1 : p = H.2.2.2.2.2
    · rw [if_pos c1] at e; cases e
    · rw [if_neg c1] at e ⊢
      exact hi.2.2.2.2.2 p k' q (by omega) e⟩
  have hn : ∀ p k', ps p k' = true → p ≠ H.2.2.2.2.2 := fun p k' h => by have := (hi.2.1 p k' h).2; omega
  have hn2 : ∀ p, pr p = true → p ≠ H.2.2.2.2.2 := fun p h => by have := hi.2.2.1 p h; omega
  have hn3 : ∀ p k', (pr p = true ∧ kw = true) ∨ ps p k' = true → p ≠ H.2.2.2.2.2 := fun p k' h => by
    rcases h with h | h
    · exact hn2 p h.1
    · exact hn p k' h
  refine ⟨⟨fun p k' q hp e => ?_, fun p k' h => ⟨?_, Nat.lt_succ_of_lt (hi.2.1 p k' h).2⟩, fun q hq => Nat.lt_succ_of_lt (hi.2.2.1 q hq), Nat.le_succ_of_le hi.2.2.2.1, hJn⟩, fun p k' hp => ⟨if_neg (hn3 p k' hp), if_neg (hn3 p k' hp), if_neg (hn3 p k' hp)⟩, fun p hp => ⟨if_neg (Nat.ne_of_lt hp), if_neg (Nat.ne_of_lt hp)⟩, Nat.le_succ _⟩
  · have e : (if p = H.2.2.2.2.2 then none else H.2.2.1 p k') = some q := e
    have hp : p < H.2.2.2.2.2 + 1 := hp
    by_cases c : p = H.2.2.2.2.2
    · rw [if_pos c] at e; cases e
    · rw [if_neg c] at e
      have hk : (yi_nw H k m).2.2.2.1 p = H.2.2.2.1 p := if_neg c
      rw [hk]
      have := hi.1 p k' q (by omega) e
      exact ⟨Nat.lt_succ_of_lt this.1, this.2⟩
  · have hk : (yi_nw H k m).2.2.2.1 p = H.2.2.2.1 p := if_neg (hn p k' h)
    rw [hk]
    exact (hi.2.1 p k' h).1
theorem kn_nV (hi : kn_I pr ps fg fp u fa H) : kn_V pr (H.2.2.2.2.2 + 1) false (.inr (.inr (some H.2.2.2.2.2))) := by
  intro q e
  have e : some H.2.2.2.2.2 = some q := Sum.inr.inj (Sum.inr.inj e)
  cases e
  refine ⟨Nat.lt_succ_self _, fun _ => ?_⟩
  cases hp : pr H.2.2.2.2.2 with
  | false => rfl
  | true => have := hi.2.2.1 _ hp; omega
theorem kn_nwo {ci : Nat} (hnk : ∀ p, 10 ≤ p → u ci p = true) (hn : np (pc + n)) (ha : kn_al pr H.2.2.2.2.2 dl al) (hs : kn_sf pr H.2.2.2.2.2 fl st) (hi : kn_I pr ps fg fp u fa H) : kn_O pr ps fg fp u fa kw dl np rd rv (false :: fl) H (yi_nwo pc n al st H nc ns ci) := kn_bif (kn_in hn (kn_al_N (Nat.le_succ _) ha) (kn_sf_g (kn_nV hi) (kn_sf_N (Nat.le_succ _) _ _ hs)) (kn_nw hnk hi))
theorem kn_nwa {t : Nat} (hnk : ∀ t p, u (20 + t) p = true) (hn : np (pc + n)) (ha : kn_al pr H.2.2.2.2.2 dl al) (hs : kn_sf pr H.2.2.2.2.2 fl st) (hi : kn_I pr ps fg fp u fa H) : kn_O pr ps fg fp u fa kw dl np rd rv (false :: fl.tail) H (yi_nwa pc n al st H nc ns t) := by
  intro y e
  unfold yi_nwa at e
  split at e
  · exact kn_bif (kn_in hn (kn_al_N (Nat.le_succ _) ha) (kn_sf_g (kn_nV hi) (kn_sf_N (Nat.le_succ _) _ _ (kn_sf_t hs))) (kn_nw (fun p _ => hnk t p) hi)) y e
  · cases e
theorem kn_mm {z : Nat} (hn : np (pc + n)) (ha : kn_al pr H.2.2.2.2.2 dl al) (hs : kn_sf pr H.2.2.2.2.2 fl st) (hi : kn_I pr ps fg fp u fa H) : kn_O pr ps fg fp u fa kw dl np rd rv (false :: fl.tail.tail) H (yi_mm pc n al st H nc ns z) := by
  intro y e
  unfold yi_mm at e
  split at e
  · cases e
    exact ⟨hn, ha, kn_sf_g (kn_Vi _) (kn_sf_t (kn_sf_t hs)), kn_H_r hi⟩
  · cases e
theorem kn_obj (hn : np (pc + n)) (ha : kn_al pr H.2.2.2.2.2 dl al) (hs : kn_sf pr H.2.2.2.2.2 fl st) (hi : kn_I pr ps fg fp u fa H) : kn_O pr ps fg fp u fa kw dl np rd rv (fl.tail) H (yi_obj pc n al st H nc ns) := by
  intro y e
  unfold yi_obj at e
  split at e
  · exact kn_bif (kn_in hn ha (kn_sf_t hs) (kn_H_r hi)) y e
  · cases e
/-- what a call is given and gives back -/
def kn_vs (pr : Nat → Bool) (N : Nat) (da : List Bool) (vs : List yi_V) : Prop := ∀ j v, vs[j]? = some v → kn_V pr N (da.getD j false) v
def kn_R (pr : Nat → Bool) (ps fg fp u : Nat → Nat → Bool) (fa kw rd rv : Bool) (H : yi_H) (r : yi_R) : Prop := r.1.isSome = rv ∧ (∀ v, r.1 = some v → kn_V pr r.2.1.2.2.2.2.2 rd v) ∧ kn_H pr ps fg fp u fa kw H r.2.1
def kn_cl (pr : Nat → Bool) (ps fg fp u : Nat → Nat → Bool) (fa kw : Bool) (ff dr vr : Nat → Bool) (da : Nat → List Bool) (call : yi_K) : Prop := ∀ mi vs H r, ff mi = true → kn_vs pr H.2.2.2.2.2 (da mi) vs → kn_I pr ps fg fp u fa H → call mi vs H = some r → kn_R pr ps fg fp u fa kw (dr mi) (vr mi) H r
def kn_ar (da : List Bool) (fl : List Bool) (k : Nat) : Bool := (List.range k).all (fun j => !(fl.getD (k - 1 - j) false) || da.getD j false)
theorem kn_inv {call : yi_K} {ff dr vr : Nat → Bool} {da : Nat → List Bool} {mi k : Nat} (hc : kn_cl pr ps fg fp u fa kw ff dr vr da call) (hf : ff mi = true) (h1 : kn_ar (da mi) fl k = true) (hn : np (pc + n)) (ha : kn_al pr H.2.2.2.2.2 dl al) (hs : kn_sf pr H.2.2.2.2.2 fl st) (hi : kn_I pr ps fg fp u fa H) : kn_O pr ps fg fp u fa kw dl np rd rv (bif vr mi then dr mi :: fl.drop k else fl.drop k) H (yi_inv pc n al st H nc ns call mi k) := by
  intro y e
  unfold yi_inv at e
  cases hb : (Nat.ble k st.length && Nat.ble (yi_cats (st.drop k)) 8) with
  | false => rw [hb] at e; cases e
  | true =>
    rw [hb] at e
    dsimp only [cond_true] at e
    rw [Bool.and_eq_true] at hb
    have hk := Nat.le_of_ble_eq_true hb.1
    have hvs : kn_vs pr H.2.2.2.2.2 (da mi) (st.take k).reverse := by
      intro j v hj
      have hl : (st.take k).length = k := by rw [List.length_take]; omega
      have hjk : j < k := by
        have := (List.getElem?_eq_some_iff.mp hj).1
        rw [List.length_reverse, hl] at this
        exact this
      rw [List.getElem?_reverse (by rw [hl]; exact hjk), hl, List.getElem?_take, if_pos (by omega)] at hj
      have h1 := List.all_eq_true.mp h1 j (List.mem_range.mpr hjk)
      rw [Bool.or_eq_true, Bool.not_eq_true'] at h1
      refine kn_V_w ?_ (kn_sf_get fl st _ v hs hj)
      rcases h1 with h1 | h1
      · rw [h1]; rfl
      · rw [h1]; exact Bool.and_false _
    have hd := kn_sf_drop k fl st hs
    split at e
    · rename_i q hq
      have hr := hc mi _ H q hf hvs hi hq
      have hN := hr.2.2.2.2.2
      split at e
      · rename_i v hv
        cases e
        have hv2 := hr.1
        rw [hv] at hv2
        have hv2 : true = vr mi := hv2
        refine ⟨hn, kn_al_N hN ha, ?_, hr.2.2⟩
        rw [← hv2]
        exact kn_sf_g (hr.2.1 v hv) (kn_sf_N hN _ _ hd)
      · rename_i hv
        cases e
        have hv2 := hr.1
        rw [hv] at hv2
        have hv2 : false = vr mi := hv2
        refine ⟨hn, kn_al_N hN ha, ?_, hr.2.2⟩
        rw [← hv2]
        exact kn_sf_N hN _ _ hd
    · cases e
theorem kn_ret {k : Nat} {ret : Option FieldType} (hc : (fl.headD false && !rd) = false) (hrv : ret.isSome = rv) (ha : kn_al pr H.2.2.2.2.2 dl al) (hs : kn_sf pr H.2.2.2.2.2 fl st) (hi : kn_I pr ps fg fp u fa H) : kn_O pr ps fg fp u fa kw dl np rd rv ([]) H (yi_ret k ret st) := by
  intro y e
  unfold yi_ret at e
  split at e
  · rename_i ty v
    have key : kn_O pr ps fg fp u fa kw dl np rd rv [] H (some (.inr (some v))) := fun y e => by
      cases e
      refine ⟨hrv, fun w ew => ?_⟩
      cases ew
      exact kn_V_w hc (kn_sf_h hs)
    exact kn_bif key y e
  · cases e
theorem kn_rtv {ret : Option FieldType} {f2 : List Bool} (hrv : ret.isSome = rv) : kn_O pr ps fg fp u fa kw dl np rd rv f2 H (yi_rtv ret st) := by
  intro y e
  unfold yi_rtv at e
  split at e
  · cases e
    exact ⟨hrv, fun w ew => by cases ew⟩
  · cases e
end KN
/-! What a run can reach, the second engine: the check of a table, the whole run. -/
/-- which of the stack's values may be guarded ones behind an instruction; none: it is not allowed -/
def kn_tr (fg fp : Nat → Nat → Bool) (nk : Nat → Bool) (fa kw rd : Bool) (ff dr vr : Nat → Bool) (da : Nat → List Bool) (dl : Nat → Bool) (i : Instr) (o : List Nat) (fl : List Bool) : Option (List Bool) := match i with
  | .iconst _ => some (false :: fl)
  | .bipush _ => some (false :: fl)
  | .sipush _ => some (false :: fl)
  | .lconst _ => some (false :: fl)
  | .aconst_null => some (false :: fl)
  | .ldc _ => (match o with | 1 :: r :: _ => if r < 10 then some (false :: fl) else none | _ => some (false :: fl))
  | .ldc_w _ => some (false :: fl)
  | .ldc2_w _ => some (false :: fl)
  | .iload _ => some (false :: fl)
  | .iload_n _ => some (false :: fl)
  | .lload _ => some (false :: fl)
  | .lload_n _ => some (false :: fl)
  | .aload k => some (dl k :: fl)
  | .aload_n k => some (dl k.val :: fl)
  | .istore _ => some fl.tail
  | .istore_n _ => some fl.tail
  | .lstore _ => some fl.tail
  | .lstore_n _ => some fl.tail
  | .astore k => (bif fl.headD false && !(dl k) then none else some fl.tail)
  | .astore_n k => (bif fl.headD false && !(dl k.val) then none else some fl.tail)
  | .iinc _ _ => some fl
  | .iadd => some (false :: fl.tail.tail)
  | .isub => some (false :: fl.tail.tail)
  | .imul => some (false :: fl.tail.tail)
  | .iand => some (false :: fl.tail.tail)
  | .ior => some (false :: fl.tail.tail)
  | .ixor => some (false :: fl.tail.tail)
  | .ishl => some (false :: fl.tail.tail)
  | .ishr => some (false :: fl.tail.tail)
  | .iushr => some (false :: fl.tail.tail)
  | .idiv => some (false :: fl.tail.tail)
  | .irem => some (false :: fl.tail.tail)
  | .ladd => some (false :: fl.tail.tail)
  | .lsub => some (false :: fl.tail.tail)
  | .lmul => some (false :: fl.tail.tail)
  | .land => some (false :: fl.tail.tail)
  | .lor => some (false :: fl.tail.tail)
  | .lxor => some (false :: fl.tail.tail)
  | .ldiv => some (false :: fl.tail.tail)
  | .lrem => some (false :: fl.tail.tail)
  | .lcmp => some (false :: fl.tail.tail)
  | .lshl => some (false :: fl.tail.tail)
  | .lshr => some (false :: fl.tail.tail)
  | .lushr => some (false :: fl.tail.tail)
  | .ineg => some (false :: fl.tail)
  | .i2b => some (false :: fl.tail)
  | .i2c => some (false :: fl.tail)
  | .i2l => some (false :: fl.tail)
  | .l2i => some (false :: fl.tail)
  | .lneg => some (false :: fl.tail)
  | .dup => some (fl.headD false :: fl)
  | .pop => some fl.tail
  | .dup2 => (bif fl.any id then none else some [])
  | .ifCond _ _ => some fl.tail
  | .if_icmp _ _ => some fl.tail.tail
  | .goto _ => some fl
  | .ifnull _ => some fl.tail
  | .ifnonnull _ => some fl.tail
  | .tableswitch _ _ _ _ => some fl.tail
  | .lookupswitch _ _ => some fl.tail
  | .getfield _ => (match o with | ci :: k :: _ => some ((Nat.ble 2 (yi_tk (zi_ty ci k)) && (fl.headD false || fg ci k)) :: fl.tail) | _ => some [])
  | .putfield _ => (match o with | ci :: k :: _ => (bif (fl.headD false && !(fg ci k)) || (fl.tail.headD false && kw) || fp ci k then none else some fl.tail.tail) | _ => some [])
  | .getstatic _ => some (false :: fl)
  | .arraylength => some (false :: fl.tail)
  | .iaload => some (false :: fl.tail.tail)
  | .laload => some (false :: fl.tail.tail)
  | .baload => some (false :: fl.tail.tail)
  | .caload => some (false :: fl.tail.tail)
  | .aaload => some ((fl.tail.headD false || fa) :: fl.tail.tail)
  | .iastore => (bif fl.tail.tail.headD false && kw then none else some fl.tail.tail.tail)
  | .lastore => (bif fl.tail.tail.headD false && kw then none else some fl.tail.tail.tail)
  | .bastore => (bif fl.tail.tail.headD false && kw then none else some fl.tail.tail.tail)
  | .castore => (bif fl.tail.tail.headD false && kw then none else some fl.tail.tail.tail)
  | .aastore => (bif (fl.tail.tail.headD false && kw) || (fl.headD false && !fa) then none else some fl.tail.tail.tail)
  | .new _ => (match o with | ci :: _ => (bif nk ci then some (false :: fl) else none) | [] => some (false :: fl))
  | .newarray _ => some (false :: fl.tail)
  | .anewarray _ => some (false :: fl.tail)
  | .invokestatic _ => (match o with | [_] => some (false :: fl.tail.tail) | mi :: k :: _ => (bif ff mi && kn_ar (da mi) fl k then some (bif vr mi then dr mi :: fl.drop k else fl.drop k) else none) | _ => some [])
  | .invokespecial _ => (match o with | [] => some fl.tail | mi :: k :: _ => (bif ff mi && kn_ar (da mi) fl k then some (bif vr mi then dr mi :: fl.drop k else fl.drop k) else none) | _ => some [])
  | .invokevirtual _ => (match o with | mi :: k :: _ :: _ => (bif ff mi && kn_ar (da mi) fl k then some (bif vr mi then dr mi :: fl.drop k else fl.drop k) else none) | _ => some [])
  | .ireturn => (bif fl.headD false && !rd then none else some [])
  | .lreturn => (bif fl.headD false && !rd then none else some [])
  | .areturn => (bif fl.headD false && !rd then none else some [])
  | .return_ => some []
  | _ => some []
def kn_np (i : Instr) (o : List Nat) (pc n m : Nat) : Prop := match i with
  | .goto _ => m ∈ o
  | .ifCond _ _ => m = pc + n ∨ m ∈ o
  | .if_icmp _ _ => m = pc + n ∨ m ∈ o
  | .ifnull _ => m = pc + n ∨ m ∈ o
  | .ifnonnull _ => m = pc + n ∨ m ∈ o
  | .tableswitch _ _ _ _ => True
  | .lookupswitch _ _ => True
  | _ => m = pc + n
def kn_ok (i : Instr) (o : List Nat) (t : Nat) (P : Nat → Bool) : Bool := match i with
  | .goto _ => o.all P
  | .ifCond _ _ => P t && o.all P
  | .if_icmp _ _ => P t && o.all P
  | .ifnull _ => P t && o.all P
  | .ifnonnull _ => P t && o.all P
  | .tableswitch _ _ _ _ => false
  | .lookupswitch _ _ => false
  | _ => P t
theorem kn_np_ok {i : Instr} {o : List Nat} {pc n m : Nat} {P : Nat → Bool} (h : kn_ok i o (pc + n) P = true) (hm : kn_np i o pc n m) : P m = true := by
  have two : ∀ {c : Bool}, (c && o.all P) = true → (c = true → P (pc + n) = true) → m = pc + n ∨ m ∈ o → P m = true := fun h hc hm => by
    rw [Bool.and_eq_true] at h
    rcases hm with e | e
    · rw [e]; exact hc h.1
    · exact List.all_eq_true.mp h.2 m e
  cases i with
  | goto x => exact List.all_eq_true.mp h m hm
  | ifCond c x => exact two h id hm
  | if_icmp c x => exact two h id hm
  | ifnull x => exact two h id hm
  | ifnonnull x => exact two h id hm
  | tableswitch a b c d => cases h
  | lookupswitch a b => cases h
  | _ =>
    have hm : m = pc + n := hm
    rw [hm]
    exact h
section KN
variable {pr : Nat → Bool} {ps fg fp u : Nat → Nat → Bool} {nk : Nat → Bool} {fa kw rd rv : Bool} {ff dr vr dl : Nat → Bool} {da : Nat → List Bool} {fl fl' : List Bool} {pc n nL : Nat} {al : List (Nat × yi_V)} {st : List yi_V} {H : yi_H} {nc ns : Nat} {call : yi_K} {ret : Option FieldType} {i : Instr} {o : List Nat}
theorem kn_arn {c : Bool} {d : List Bool} {k : Nat} {f2 : List Bool} (h : (bif c && kn_ar d fl k then some f2 else none) = some fl') : c = true ∧ kn_ar d fl k = true ∧ f2 = fl' := by
  cases hb : (c && kn_ar d fl k) with
  | false => rw [hb] at h; cases h
  | true =>
    rw [hb] at h
    rw [Bool.and_eq_true] at hb
    exact ⟨hb.1, hb.2, Option.some.inj h⟩
theorem kn_do (hun : (∀ c, nk c = true → ∀ p, 10 ≤ p → u c p = true) ∧ ∀ t p, u (20 + t) p = true) (h10 : ∀ q, pr q = true → 10 ≤ q) (hfg : ∀ c k, fg c k = true → c < 20 ∨ 26 < c) (hfp : ∀ c k, fp c k = true → c < 20) (hc : kn_cl pr ps fg fp u fa kw ff dr vr da call) (hrv : ret.isSome = rv) (ha : kn_al pr H.2.2.2.2.2 dl al) (hs : kn_sf pr H.2.2.2.2.2 fl st) (hi : kn_I pr ps fg fp u fa H) (htr : kn_tr fg fp nk fa kw rd ff dr vr da dl i o fl = some fl') : kn_O pr ps fg fp u fa kw dl (kn_np i o pc n) rd rv fl' H (yi_do call [] nL ret pc al st H nc ns i n o) := by
  cases i with
  | iconst k =>
    cases htr
    exact kn_bif (kn_ps rfl (kn_Vi _) ha hs hi)
  | bipush k =>
    cases htr
    exact kn_bif (kn_ps rfl (kn_Vi _) ha hs hi)
  | sipush k =>
    cases htr
    exact kn_bif (kn_ps rfl (kn_Vi _) ha hs hi)
  | lconst k =>
    cases htr
    exact kn_ps rfl (kn_Vl _) ha hs hi
  | aconst_null =>
    cases htr
    exact kn_ps rfl kn_Vn ha hs hi
  | ldc j =>
    match o, htr with
    | [], _ => exact kn_none
    | [0], _ => exact kn_none
    | [1], _ => exact kn_none
    | [_ + 2], _ => exact kn_none
    | 0 :: v :: _, htr => cases htr; exact kn_ps rfl (kn_Vi _) ha hs hi
    | 1 :: r :: _, htr =>
      have htr : (if r < 10 then some (false :: fl) else none) = some fl' := htr
      split at htr
      · rename_i hr
        cases htr
        refine kn_ps rfl (fun q e => ?_) ha hs hi
        have e : some r = some q := Sum.inr.inj (Sum.inr.inj e)
        cases e
        refine ⟨Nat.lt_of_lt_of_le hr hi.2.2.2.1, fun _ => ?_⟩
        cases hp : pr r with
        | false => rfl
        | true => have := h10 r hp; omega
      · cases htr
    | (_ + 2) :: _ :: _, _ => exact kn_none
  | ldc_w j =>
    cases htr
    match o with
    | [] => exact kn_none
    | [0] => exact kn_none
    | [_ + 1] => exact kn_none
    | 0 :: v :: _ => exact kn_ps rfl (kn_Vi _) ha hs hi
    | (_ + 1) :: _ :: _ => exact kn_none
  | ldc2_w j =>
    cases htr
    match o with
    | [] => exact kn_none
    | v :: _ => exact kn_ps rfl (kn_Vl _) ha hs hi
  | iload k =>
    cases htr
    exact kn_ld (by omega) rfl ha hs hi
  | iload_n k =>
    cases htr
    exact kn_ld (by omega) rfl ha hs hi
  | lload k =>
    cases htr
    exact kn_ld (by omega) rfl ha hs hi
  | lload_n k =>
    cases htr
    exact kn_ld (by omega) rfl ha hs hi
  | aload k =>
    cases htr
    exact kn_lda rfl ha hs hi
  | aload_n k =>
    cases htr
    exact kn_lda rfl ha hs hi
  | istore k =>
    cases htr
    exact kn_sti rfl ha hs hi
  | istore_n k =>
    cases htr
    exact kn_sti rfl ha hs hi
  | lstore k =>
    cases htr
    exact kn_stl rfl ha hs hi
  | lstore_n k =>
    cases htr
    exact kn_stl rfl ha hs hi
  | astore k =>
    obtain ⟨hc, hr⟩ := cp_bn htr
    cases hr
    exact kn_sta hc rfl ha hs hi
  | astore_n k =>
    obtain ⟨hc, hr⟩ := cp_bn htr
    cases hr
    exact kn_sta hc rfl ha hs hi
  | iinc k d =>
    cases htr
    exact kn_inc rfl ha hs hi
  | iadd =>
    cases htr
    exact kn_ii rfl ha hs hi
  | isub =>
    cases htr
    exact kn_ii rfl ha hs hi
  | imul =>
    cases htr
    exact kn_ii rfl ha hs hi
  | iand =>
    cases htr
    exact kn_ii rfl ha hs hi
  | ior =>
    cases htr
    exact kn_ii rfl ha hs hi
  | ixor =>
    cases htr
    exact kn_ii rfl ha hs hi
  | ishl =>
    cases htr
    exact kn_ii rfl ha hs hi
  | ishr =>
    cases htr
    exact kn_ii rfl ha hs hi
  | iushr =>
    cases htr
    exact kn_ii rfl ha hs hi
  | idiv =>
    cases htr
    exact kn_iz rfl ha hs hi
  | irem =>
    cases htr
    exact kn_iz rfl ha hs hi
  | ladd =>
    cases htr
    exact kn_ll rfl ha hs hi
  | lsub =>
    cases htr
    exact kn_ll rfl ha hs hi
  | lmul =>
    cases htr
    exact kn_ll rfl ha hs hi
  | land =>
    cases htr
    exact kn_ll rfl ha hs hi
  | lor =>
    cases htr
    exact kn_ll rfl ha hs hi
  | lxor =>
    cases htr
    exact kn_ll rfl ha hs hi
  | ldiv =>
    cases htr
    exact kn_lz rfl ha hs hi
  | lrem =>
    cases htr
    exact kn_lz rfl ha hs hi
  | lcmp =>
    cases htr
    exact kn_lc rfl ha hs hi
  | lshl =>
    cases htr
    exact kn_lw rfl ha hs hi
  | lshr =>
    cases htr
    exact kn_lw rfl ha hs hi
  | lushr =>
    cases htr
    exact kn_lw rfl ha hs hi
  | ineg =>
    cases htr
    exact kn_i1 (fun _ => kn_Vi _) rfl ha hs hi
  | i2b =>
    cases htr
    exact kn_i1 (fun _ => kn_Vi _) rfl ha hs hi
  | i2c =>
    cases htr
    exact kn_i1 (fun _ => kn_Vi _) rfl ha hs hi
  | i2l =>
    cases htr
    exact kn_i1 (fun _ => kn_Vl _) rfl ha hs hi
  | l2i =>
    cases htr
    exact kn_l1 (fun _ => kn_Vi _) rfl ha hs hi
  | lneg =>
    cases htr
    exact kn_l1 (fun _ => kn_Vl _) rfl ha hs hi
  | dup =>
    cases htr
    exact kn_dup rfl ha hs hi
  | pop =>
    cases htr
    exact kn_pop rfl ha hs hi
  | dup2 =>
    obtain ⟨hc, hr⟩ := cp_bn htr
    cases hr
    exact kn_dup2 hc rfl ha hs hi
  | ifCond c x =>
    cases htr
    cases o with
    | nil => exact kn_none
    | cons t o => exact kn_if1 (Or.inl rfl) (Or.inr (List.mem_cons_self ..)) ha hs hi
  | if_icmp c x =>
    cases htr
    cases o with
    | nil => exact kn_none
    | cons t o => exact kn_if2 (Or.inl rfl) (Or.inr (List.mem_cons_self ..)) ha hs hi
  | goto x =>
    cases htr
    cases o with
    | nil => exact kn_none
    | cons t o => exact kn_in (show t ∈ t :: o from List.mem_cons_self ..) ha hs (kn_H_r hi)
  | ifnull x =>
    cases htr
    cases o with
    | nil => exact kn_none
    | cons t o => exact kn_nul (Or.inl rfl) (Or.inr (List.mem_cons_self ..)) ha hs hi
  | ifnonnull x =>
    cases htr
    cases o with
    | nil => exact kn_none
    | cons t o => exact kn_nul (Or.inl rfl) (Or.inr (List.mem_cons_self ..)) ha hs hi
  | tableswitch x lo hh z =>
    cases htr
    exact kn_tsw (fun _ => trivial) ha hs hi
  | lookupswitch d z =>
    cases htr
    exact kn_lsw (fun _ => trivial) ha hs hi
  | getfield j =>
    match o, htr with
    | [], _ => exact kn_none
    | [_], _ => exact kn_none
    | ci :: k :: _, htr => cases htr; exact kn_get h10 rfl ha hs hi
  | putfield j =>
    match o, htr with
    | [], _ => exact kn_none
    | [_], _ => exact kn_none
    | ci :: k :: _, htr => 
      obtain ⟨hc, hr⟩ := cp_bn htr
      cases hr
      exact kn_put hc rfl ha hs hi
  | getstatic j =>
    cases htr
    cases o with
    | nil => exact kn_none
    | cons t o => exact kn_gts rfl ha hs hi
  | arraylength =>
    cases htr
    exact kn_len rfl ha hs hi
  | iaload =>
    cases htr
    exact kn_ald (Or.inl (Or.inl rfl)) rfl hfg ha hs hi
  | laload =>
    cases htr
    exact kn_ald (Or.inl (Or.inr rfl)) rfl hfg ha hs hi
  | baload =>
    cases htr
    exact kn_ald (Or.inl (Or.inl rfl)) rfl hfg ha hs hi
  | caload =>
    cases htr
    exact kn_ald (Or.inl (Or.inl rfl)) rfl hfg ha hs hi
  | aaload =>
    cases htr
    exact kn_ald (Or.inr rfl) rfl hfg ha hs hi
  | iastore =>
    obtain ⟨hc, hr⟩ := cp_bn htr
    cases hr
    exact kn_ast hfp hc rfl ha hs hi
  | lastore =>
    obtain ⟨hc, hr⟩ := cp_bn htr
    cases hr
    exact kn_ast hfp hc rfl ha hs hi
  | bastore =>
    obtain ⟨hc, hr⟩ := cp_bn htr
    cases hr
    exact kn_ast hfp hc rfl ha hs hi
  | castore =>
    obtain ⟨hc, hr⟩ := cp_bn htr
    cases hr
    exact kn_ast hfp hc rfl ha hs hi
  | aastore =>
    obtain ⟨hc, hr⟩ := cp_bn htr
    cases hr
    exact kn_aas hfp hc rfl ha hs hi
  | new j =>
    cases o with
    | nil => cases htr; exact kn_none
    | cons t o =>
      have htr : (bif nk t then some (false :: fl) else none) = some fl' := htr
      cases hnk : nk t with
      | false => rw [hnk] at htr; cases htr
      | true =>
        rw [hnk] at htr
        cases htr
        exact kn_nwo (hun.1 t hnk) rfl ha hs hi
  | newarray j =>
    cases htr
    cases o with
    | nil => exact kn_none
    | cons t o => exact kn_nwa hun.2 rfl ha hs hi
  | anewarray j =>
    cases htr
    cases o with
    | nil => exact kn_none
    | cons t o => exact kn_nwa hun.2 rfl ha hs hi
  | invokestatic j =>
    match o, htr with
    | [], _ => exact kn_none
    | [z], htr => cases htr; exact kn_bif (kn_mm rfl ha hs hi)
    | mi :: k :: _, htr =>
      obtain ⟨h1, h2, hr⟩ := kn_arn htr
      cases hr
      exact kn_inv hc h1 h2 rfl ha hs hi
  | invokespecial j =>
    match o, htr with
    | [], htr => cases htr; exact kn_obj rfl ha hs hi
    | [_], _ => exact kn_none
    | mi :: k :: oo, htr =>
      obtain ⟨h1, h2, hr⟩ := kn_arn htr
      cases hr
      show kn_O pr ps fg fp u fa kw dl (fun m => m = pc + n) rd rv _ H (match st[k - 1]? with | some (.inr (.inr (some _))) => bif Nat.ble 1 k then yi_inv pc n al st H nc ns call mi k else none | _ => none)
      split
      · exact kn_bif (kn_inv hc h1 h2 rfl ha hs hi)
      · exact kn_none
  | invokevirtual j =>
    match o, htr with
    | [], _ => exact kn_none
    | [_], _ => exact kn_none
    | [_, _], _ => exact kn_none
    | mi :: k :: ci :: _, htr =>
      obtain ⟨h1, h2, hr⟩ := kn_arn htr
      cases hr
      exact kn_bif (kn_inv hc h1 h2 rfl ha hs hi)
  | ireturn =>
    obtain ⟨hc, hr⟩ := cp_bn htr
    cases hr
    exact kn_ret (k := 0) (ret := ret) hc hrv ha hs hi
  | lreturn =>
    obtain ⟨hc, hr⟩ := cp_bn htr
    cases hr
    exact kn_ret (k := 1) (ret := ret) hc hrv ha hs hi
  | areturn =>
    obtain ⟨hc, hr⟩ := cp_bn htr
    cases hr
    exact kn_ret (k := 2) (ret := ret) hc hrv ha hs hi
  | return_ =>
    exact kn_rtv hrv
  | _ => exact kn_none
def kn_le : List Bool → List Bool → Bool
  | [], _ => true
  | a :: l, [] => !a && kn_le l []
  | a :: l, b :: m => (!a || b) && kn_le l m
theorem kn_le_sf {N : Nat} : ∀ (f g : List Bool) (st : List yi_V), kn_le f g = true → kn_sf pr N f st → kn_sf pr N g st
  | [], g, st, _, h => kn_sf_0 g st h
  | a :: l, [], [], _, _ => trivial
  | a :: l, b :: m, [], _, _ => trivial
  | a :: l, [], v :: st, e, h => by
    have e : (!a && kn_le l []) = true := e
    rw [Bool.and_eq_true, Bool.not_eq_true'] at e
    exact ⟨kn_V_w (by rw [e.1]; rfl) h.1, kn_le_sf l [] st e.2 h.2⟩
  | a :: l, b :: m, v :: st, e, h => by
    have e : ((!a || b) && kn_le l m) = true := e
    rw [Bool.and_eq_true, Bool.or_eq_true, Bool.not_eq_true'] at e
    refine ⟨kn_V_w ?_ h.1, kn_le_sf l m st e.2 h.2⟩
    rcases e.1 with z | z
    · rw [z]; rfl
    · rw [z]; exact Bool.and_false _
def kn_chk (fg fp : Nat → Nat → Bool) (nk : Nat → Bool) (fa kw rd : Bool) (ff dr vr : Nat → Bool) (da : Nat → List Bool) (dl : Nat → Bool) (sa : Nat → List Bool) (pc : Nat) (e : zi_E) : Bool := match kn_tr fg fp nk fa kw rd ff dr vr da dl e.1 e.2.2 (sa pc) with
  | some f => !(f.any id) || kn_ok e.1 e.2.2 (pc + e.2.1) (fun m => kn_le f (sa m))
  | none => false
def kn_tb (fg fp : Nat → Nat → Bool) (nk : Nat → Bool) (fa kw rd : Bool) (ff dr vr : Nat → Bool) (da : Nat → List Bool) (dl : Nat → Bool) (sa : Nat → List Bool) (T : zi_T) : Bool := T.all (fun q => q.2.all (fun x => kn_chk fg fp nk fa kw rd ff dr vr da dl sa x.1 x.2))
theorem kn_H_t {H1 H2 : yi_H} (h : kn_H pr ps fg fp u fa kw H H1) (h2 : kn_H pr ps fg fp u fa kw H1 H2) : kn_H pr ps fg fp u fa kw H H2 := ⟨h2.1, fun p k hp => ⟨(h2.2.1 p k hp).1.trans (h.2.1 p k hp).1, (h2.2.1 p k hp).2.1.trans (h.2.1 p k hp).2.1, (h2.2.1 p k hp).2.2.trans (h.2.1 p k hp).2.2⟩, fun p hp => ⟨(h2.2.2.1 p (Nat.lt_of_lt_of_le hp h.2.2.2)).1.trans (h.2.2.1 p hp).1, (h2.2.2.1 p (Nat.lt_of_lt_of_le hp h.2.2.2)).2.trans (h.2.2.1 p hp).2⟩, Nat.le_trans h.2.2.2 h2.2.2.2⟩
theorem kn_loop (hun : (∀ c, nk c = true → ∀ p, 10 ≤ p → u c p = true) ∧ ∀ t p, u (20 + t) p = true) (h10 : ∀ q, pr q = true → 10 ≤ q) (hfg : ∀ c k, fg c k = true → c < 20 ∨ 26 < c) (hfp : ∀ c k, fp c k = true → c < 20) (hc : kn_cl pr ps fg fp u fa kw ff dr vr da call) {sa : Nat → List Bool} {M : zi_M} (hM : kn_tb fg fp nk fa kw rd ff dr vr da dl sa M.2.2.2.2.1 = true) (hrv : M.2.2.2.1.isSome = rv) {r : yi_R} : ∀ (j : Nat) (f : yi_F), kn_al pr f.2.2.2.1.2.2.2.2.2 dl f.2.1 → kn_sf pr f.2.2.2.1.2.2.2.2.2 (sa f.1) f.2.2.1 → kn_I pr ps fg fp u fa f.2.2.2.1 → yi_loop call M j f = some r → kn_R pr ps fg fp u fa kw rd rv f.2.2.2.1 r
  | 0, f, _, _, _, h => by
    have h : (none : Option yi_R) = some r := h
    cases h
  | j + 1, f, ha, hs, hi, h => by
    have h : (match yi_stp call [] M f with | some (.inl g) => bif yi_up f g then yi_loop call M j g else none | some (.inr v) => some (v, f.2.2.2.1, f.2.2.2.2.1, f.2.2.2.2.2) | none => none) = some r := h
    cases hst : yi_stp call [] M f with
    | none => rw [hst] at h; cases h
    | some q =>
      rw [hst] at h
      unfold yi_stp at hst
      split at hst
      · rename_i e he
        have hk : kn_chk fg fp nk fa kw rd ff dr vr da dl sa f.1 e = true := cp_lk2 (P := fun a b => kn_chk fg fp nk fa kw rd ff dr vr da dl sa a b) _ he hM
        unfold kn_chk at hk
        split at hk
        · rename_i f2 htr
          have hO := kn_do (nL := M.2.2.1) (pc := f.1) (n := e.2.1) (nc := f.2.2.2.2.1) (ns := f.2.2.2.2.2) hun h10 hfg hfp hc hrv ha hs hi htr
          split at hst
          · rename_i g hd
            cases hst
            have z := hO _ hd
            have hs2 : kn_sf pr g.2.2.2.1.2.2.2.2.2 (sa g.1) g.2.2.1 := by
              rw [Bool.or_eq_true, Bool.not_eq_true'] at hk
              rcases hk with hk | hk
              · exact kn_sf_0 _ _ (kn_sf_all _ _ hk z.2.2.1)
              · exact kn_le_sf f2 (sa g.1) _ (kn_np_ok hk z.1) z.2.2.1
            have h : (bif yi_up f g then yi_loop call M j g else none) = some r := h
            cases hu : yi_up f g with
            | false => rw [hu] at h; cases h
            | true =>
              rw [hu] at h
              have w := kn_loop hun h10 hfg hfp hc hM hrv j g z.2.1 hs2 z.2.2.2.1 h
              exact ⟨w.1, w.2.1, kn_H_t z.2.2.2 w.2.2⟩
          · rename_i v hd
            cases hb : zi_isr e.1 with
            | false => rw [hb] at hst; cases hst
            | true =>
              rw [hb] at hst
              have hst : (some (.inr v) : yi_O) = some q := hst
              cases hst
              have h : some (v, f.2.2.2.1, f.2.2.2.2.1, f.2.2.2.2.2) = some r := h
              cases h
              have z := hO _ hd
              exact ⟨z.1, z.2, kn_H_r hi⟩
          · cases hst
        · cases hk
      · cases hst
/-- the locals that a call's guarded arguments may lie in -/
def kn_dk (dl : Nat → Bool) : Nat → List Bool → Bool
  | _, [] => true
  | j, b :: l => (!b || (List.range (j + 1)).all (fun i => dl (j + i))) && kn_dk dl (j + 1) l
theorem kn_ent {N : Nat} : ∀ (vs : List yi_V) (da : List Bool) (i j : Nat), j ≤ i → i ≤ j + j → kn_dk dl j da = true → (∀ k v, vs[k]? = some v → kn_V pr N (da.getD k false) v) → kn_al pr N dl (yi_ent i vs)
  | [], _, _, _, _, _, _, _ => fun q hq => by cases hq
  | v :: vs, da, i, j, h1, h2, hd, h => by
    have hc : yi_cat v ≤ 2 ∧ 1 ≤ yi_cat v := by
      unfold yi_cat
      split <;> omega
    intro q hq
    have hq : q ∈ (i, v) :: yi_ent (i + yi_cat v) vs := hq
    rcases List.mem_cons.mp hq with z | z
    · subst z
      refine kn_V_w ?_ (h 0 v rfl)
      cases da with
      | nil => rfl
      | cons b l =>
        have hd : ((!b || (List.range (j + 1)).all (fun i => dl (j + i))) && kn_dk dl (j + 1) l) = true := hd
        rw [Bool.and_eq_true, Bool.or_eq_true, Bool.not_eq_true'] at hd
        show (b && !dl i) = false
        rcases hd.1 with x | x
        · rw [x]; rfl
        · have := List.all_eq_true.mp x (i - j) (List.mem_range.mpr (by omega))
          rw [Nat.add_sub_cancel' h1] at this
          rw [this]
          exact Bool.and_false _
    · refine kn_ent vs da.tail (i + yi_cat v) (j + 1) (by omega) (by omega) ?_ (fun k w hw => ?_) q z
      · cases da with
        | nil => rfl
        | cons b l =>
          have hd : ((!b || (List.range (j + 1)).all (fun i => dl (j + i))) && kn_dk dl (j + 1) l) = true := hd
          rw [Bool.and_eq_true] at hd
          exact hd.2
      · have := h (k + 1) w hw
        cases da with
        | nil => exact this
        | cons b l => exact this
theorem kn_all (hun : (∀ c, nk c = true → ∀ p, 10 ≤ p → u c p = true) ∧ ∀ t p, u (20 + t) p = true) (h10 : ∀ q, pr q = true → 10 ≤ q) (hfg : ∀ c k, fg c k = true → c < 20 ∨ 26 < c) (hfp : ∀ c k, fp c k = true → c < 20) {Ms : List zi_M} {sa : Nat → Nat → List Bool} {dl : Nat → Nat → Bool} (h0 : ∀ mi, sa mi 0 = []) (hM : ∀ mi M, ff mi = true → Ms[mi]? = some M → M.2.2.2.1.isSome = vr mi ∧ kn_dk (dl mi) 0 (da mi) = true ∧ kn_tb fg fp nk fa kw (dr mi) ff dr vr da (dl mi) (sa mi) M.2.2.2.2.1 = true) (n : Nat) : ∀ d, kn_cl pr ps fg fp u fa kw ff dr vr da (yi_ev Ms n d)
  | 0 => fun mi vs H r _ _ _ e => by
    have e : (none : Option yi_R) = some r := e
    cases e
  | d + 1 => fun mi vs H r hf hv hi e => by
    have e : (match Ms[mi]? with | some M => bif Nat.ble (yi_cats vs) M.2.2.1 then yi_loop (yi_ev Ms n d) M n (0, yi_ent 0 vs, [], H, 0, 0) else none | none => none) = some r := e
    cases hm : Ms[mi]? with
    | none => rw [hm] at e; cases e
    | some M =>
      rw [hm] at e
      dsimp only at e
      cases hb : Nat.ble (yi_cats vs) M.2.2.1 with
      | false => rw [hb] at e; cases e
      | true =>
        rw [hb] at e
        have z := hM mi M hf hm
        have hs0 : kn_sf pr H.2.2.2.2.2 (sa mi 0) [] := by rw [h0 mi]; trivial
        exact kn_loop hun h10 hfg hfp (kn_all hun h10 hfg hfp h0 hM n d) z.2.2 z.1 n (0, yi_ent 0 vs, [], H, 0, 0) (kn_ent vs (da mi) 0 0 (Nat.le_refl _) (Nat.le_refl _) z.2.1 hv) hs0 hi e
end KN
