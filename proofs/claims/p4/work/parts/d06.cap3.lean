/-! What a run can reach, the second engine: flags for each argument and for what is given back; all references are bounded; what is guarded is held by few places and (kw) keeps all that it holds; slots ps are kept whole. -/
def cq_V (pr : Nat → Bool) (N : Nat) (f : Bool) (v : yi_V) : Prop := ∀ q, v = .inr (.inr (some q)) → q < N ∧ (f = false → pr q = false)
def cq_sf (pr : Nat → Bool) (N : Nat) : List Bool → List yi_V → Prop
  | _, [] => True
  | [], v :: st => cq_V pr N false v ∧ cq_sf pr N [] st
  | f :: fl, v :: st => cq_V pr N f v ∧ cq_sf pr N fl st
def cq_al (pr : Nat → Bool) (N : Nat) (dl : Nat → Bool) (al : List (Nat × yi_V)) : Prop := ∀ q ∈ al, cq_V pr N (dl q.1) q.2
section CQ
variable (pr : Nat → Bool) (ps fg fp : Nat → Nat → Bool) (fa kw : Bool)
/-- all is bounded; who holds what is guarded: what is guarded itself, slots fg of a kind, arrays if fa -/
def cq_I (H : yi_H) : Prop := (∀ p k q, p < H.2.2.2.2.2 → H.2.2.1 p k = some q → q < H.2.2.2.2.2 ∧ (pr q = true → pr p = true ∨ fg (H.2.2.2.1 p) k = true ∨ (fa = true ∧ 20 ≤ H.2.2.2.1 p))) ∧ (∀ p k, ps p k = true → fp (H.2.2.2.1 p) k = true ∧ p < H.2.2.2.2.2) ∧ (∀ q, pr q = true → q < H.2.2.2.2.2) ∧ 10 ≤ H.2.2.2.2.2
def cq_H (H H' : yi_H) : Prop := cq_I pr ps fg fp fa H' ∧ (∀ p k, (pr p = true ∧ kw = true) ∨ ps p k = true → H'.1 p k = H.1 p k ∧ H'.2.1 p k = H.2.1 p k ∧ H'.2.2.1 p k = H.2.2.1 p k) ∧ (∀ p, p < H.2.2.2.2.2 → H'.2.2.2.1 p = H.2.2.2.1 p ∧ H'.2.2.2.2.1 p = H.2.2.2.2.1 p) ∧ H.2.2.2.2.2 ≤ H'.2.2.2.2.2
def cq_O (dl : Nat → Bool) (np : Nat → Prop) (rd rv : Bool) (fl : List Bool) (H : yi_H) (x : yi_O) : Prop := ∀ y, x = some y → (match y with | .inl g => np g.1 ∧ cq_al pr g.2.2.2.1.2.2.2.2.2 dl g.2.1 ∧ cq_sf pr g.2.2.2.1.2.2.2.2.2 fl g.2.2.1 ∧ cq_H pr ps fg fp fa kw H g.2.2.2.1 | .inr v => v.isSome = rv ∧ ∀ w, v = some w → cq_V pr H.2.2.2.2.2 rd w)
end CQ
section CQ
variable {pr : Nat → Bool} {ps fg fp : Nat → Nat → Bool} {fa kw rd rv f : Bool} {np : Nat → Prop} {dl : Nat → Bool} {fl : List Bool} {N pc n : Nat} {al : List (Nat × yi_V)} {st r : List yi_V} {H H' : yi_H} {nc ns : Nat} {v : yi_V} {x : yi_O}
theorem cq_Vi (z : Int) : cq_V pr N f (.inl z) := fun q e => by cases e
theorem cq_Vl (z : Int) : cq_V pr N f (.inr (.inl z)) := fun q e => by cases e
theorem cq_Vn : cq_V pr N f (.inr (.inr none)) := fun q e => by cases e
theorem cq_V_w {g : Bool} (h : (f && !g) = false) (hv : cq_V pr N f v) : cq_V pr N g v := fun q e => ⟨(hv q e).1, fun hg => (hv q e).2 (by rw [hg, Bool.not_false, Bool.and_true] at h; exact h)⟩
theorem cq_V_N {N' : Nat} (h : N ≤ N') (hv : cq_V pr N f v) : cq_V pr N' f v := fun q e => ⟨Nat.lt_of_lt_of_le (hv q e).1 h, (hv q e).2⟩
theorem cq_sf_n : cq_sf pr N fl [] := by cases fl <;> trivial
theorem cq_sf_h (h : cq_sf pr N fl (v :: st)) : cq_V pr N (fl.headD false) v := by
  cases fl with
  | nil => exact h.1
  | cons f fl => exact h.1
theorem cq_sf_t (h : cq_sf pr N fl (v :: st)) : cq_sf pr N fl.tail st := by
  cases fl with
  | nil => exact h.2
  | cons f fl => exact h.2
theorem cq_sf_g (h : cq_V pr N f v) (h2 : cq_sf pr N fl st) : cq_sf pr N (f :: fl) (v :: st) := ⟨h, h2⟩
theorem cq_H_r (h : cq_I pr ps fg fp fa H) : cq_H pr ps fg fp fa kw H H := ⟨h, fun _ _ _ => ⟨rfl, rfl, rfl⟩, fun _ _ => ⟨rfl, rfl⟩, Nat.le_refl _⟩
theorem cq_sf_all : ∀ (fl : List Bool) (st : List yi_V), fl.any id = false → cq_sf pr N fl st → cq_sf pr N [] st
  | _, [], _, _ => trivial
  | [], _ :: _, _, h => h
  | f :: fl, v :: st, e, h => by
    have e : (f || fl.any id) = false := e
    rw [Bool.or_eq_false_iff] at e
    exact ⟨cq_V_w (by rw [e.1]; rfl) h.1, cq_sf_all fl st e.2 h.2⟩
theorem cq_sf_0 : ∀ (fl : List Bool) (st : List yi_V), cq_sf pr N [] st → cq_sf pr N fl st
  | _, [], _ => cq_sf_n
  | [], _ :: _, h => h
  | _ :: fl, _ :: st, h => ⟨cq_V_w rfl h.1, cq_sf_0 fl st h.2⟩
theorem cq_sf_N {N' : Nat} (hN : N ≤ N') : ∀ (fl : List Bool) (st : List yi_V), cq_sf pr N fl st → cq_sf pr N' fl st
  | _, [], _ => cq_sf_n
  | [], _ :: st, h => ⟨cq_V_N hN h.1, cq_sf_N hN [] st h.2⟩
  | _ :: fl, _ :: st, h => ⟨cq_V_N hN h.1, cq_sf_N hN fl st h.2⟩
theorem cq_al_N {N' : Nat} (hN : N ≤ N') (h : cq_al pr N dl al) : cq_al pr N' dl al := fun q hq => cq_V_N hN (h q hq)
theorem cq_sf_get : ∀ (fl : List Bool) (st : List yi_V) (i : Nat) (v : yi_V), cq_sf pr N fl st → st[i]? = some v → cq_V pr N (fl.getD i false) v
  | _, [], i, v, _, e => by cases e
  | fl, w :: st, 0, v, h, e => by
    have e : some w = some v := e
    cases e
    have z := cq_sf_h h
    cases fl with
    | nil => exact z
    | cons a b => exact z
  | fl, w :: st, i + 1, v, h, e => by
    have z := cq_sf_get fl.tail st i v (cq_sf_t h) e
    cases fl with
    | nil => exact z
    | cons a b => exact z
theorem cq_sf_drop : ∀ (k : Nat) (fl : List Bool) (st : List yi_V), cq_sf pr N fl st → cq_sf pr N (fl.drop k) (st.drop k)
  | 0, _, _, h => h
  | k + 1, [], [], _ => trivial
  | k + 1, f :: fl, [], _ => cq_sf_n
  | k + 1, [], _ :: st, h => by
    have := cq_sf_drop k [] st h.2
    rw [List.drop_nil] at this ⊢
    exact this
  | k + 1, f :: fl, _ :: st, h => cq_sf_drop k fl st h.2
theorem cq_al1 {i : Nat} (ha : cq_al pr N dl al) (h : cq_V pr N (dl i) v) : cq_al pr N dl ((i, v) :: yi_del1 i al) := by
  intro q hq
  rcases List.mem_cons.mp hq with z | z
  · subst z; exact h
  · exact ha q (cp_del1 al q z)
theorem cq_al2 {i : Nat} (ha : cq_al pr N dl al) (h : cq_V pr N (dl i) v) : cq_al pr N dl ((i, v) :: yi_del2 i al) := by
  intro q hq
  rcases List.mem_cons.mp hq with z | z
  · subst z; exact h
  · exact ha q (cp_del2 al q z)
theorem cq_kd {k : Nat} (h : Nat.beq (yi_kd v) k = true) (hk : k < 2) : cq_V pr N f v := by
  have h := Nat.eq_of_beq_eq_true h
  intro q e
  subst e
  have h : 2 = k := h
  omega
theorem cq_none {fl' : List Bool} : cq_O pr ps fg fp fa kw dl np rd rv fl' H none := fun y e => by cases e
theorem cq_bif {fl' : List Bool} {c : Bool} (h : cq_O pr ps fg fp fa kw dl np rd rv fl' H x) : cq_O pr ps fg fp fa kw dl np rd rv fl' H (bif c then x else none) := by
  cases c with
  | true => exact h
  | false => exact cq_none
theorem cq_in {fl' : List Bool} {g : yi_F} (hn : np g.1) (ha : cq_al pr g.2.2.2.1.2.2.2.2.2 dl g.2.1) (hs : cq_sf pr g.2.2.2.1.2.2.2.2.2 fl' g.2.2.1) (hh : cq_H pr ps fg fp fa kw H g.2.2.2.1) : cq_O pr ps fg fp fa kw dl np rd rv fl' H (some (.inl g)) := fun y e => by
  cases e
  exact ⟨hn, ha, hs, hh⟩
theorem cq_ps (hn : np (pc + n)) (hv : cq_V pr H.2.2.2.2.2 false v) (ha : cq_al pr H.2.2.2.2.2 dl al) (hs : cq_sf pr H.2.2.2.2.2 fl st) (hi : cq_I pr ps fg fp fa H) : cq_O pr ps fg fp fa kw dl np rd rv (false :: fl) H (yi_ps pc n al st H nc ns v) := cq_in hn ha (cq_sf_g hv hs) (cq_H_r hi)
theorem cq_ld {i k : Nat} (hk : k < 2) (hn : np (pc + n)) (ha : cq_al pr H.2.2.2.2.2 dl al) (hs : cq_sf pr H.2.2.2.2.2 fl st) (hi : cq_I pr ps fg fp fa H) : cq_O pr ps fg fp fa kw dl np rd rv (false :: fl) H (yi_ld pc n al st H nc ns i k) := by
  intro y e
  unfold yi_ld at e
  split at e
  · rename_i w hw
    cases hb : Nat.beq (yi_kd w) k with
    | true => rw [hb] at e; cases e; exact ⟨hn, ha, cq_sf_g (cq_kd hb hk) hs, cq_H_r hi⟩
    | false => rw [hb] at e; cases e
  · cases e
theorem cq_lda {i : Nat} (hn : np (pc + n)) (ha : cq_al pr H.2.2.2.2.2 dl al) (hs : cq_sf pr H.2.2.2.2.2 fl st) (hi : cq_I pr ps fg fp fa H) : cq_O pr ps fg fp fa kw dl np rd rv (dl i :: fl) H (yi_lda pc n al st H nc ns i) := by
  intro y e
  unfold yi_lda at e
  split at e
  · rename_i w hw
    cases hb : Nat.ble 2 (yi_kd w) with
    | true => rw [hb] at e; cases e; exact ⟨hn, ha, cq_sf_g (ha _ (cp_loc al hw)) hs, cq_H_r hi⟩
    | false => rw [hb] at e; cases e
  · cases e
theorem cq_sti {i nL : Nat} (hn : np (pc + n)) (ha : cq_al pr H.2.2.2.2.2 dl al) (hs : cq_sf pr H.2.2.2.2.2 fl st) (hi : cq_I pr ps fg fp fa H) : cq_O pr ps fg fp fa kw dl np rd rv (fl.tail) H (yi_sti pc n al st H nc ns nL i) := by
  intro y e
  unfold yi_sti at e
  split at e
  · rename_i w r
    cases hb : (Nat.beq (yi_kd w) 0 && Nat.ble (i + 1) nL) with
    | true => rw [hb] at e; cases e; rw [Bool.and_eq_true] at hb; exact ⟨hn, cq_al1 ha (cq_kd hb.1 (by omega)), cq_sf_t hs, cq_H_r hi⟩
    | false => rw [hb] at e; cases e
  · cases e
theorem cq_stl {i nL : Nat} (hn : np (pc + n)) (ha : cq_al pr H.2.2.2.2.2 dl al) (hs : cq_sf pr H.2.2.2.2.2 fl st) (hi : cq_I pr ps fg fp fa H) : cq_O pr ps fg fp fa kw dl np rd rv (fl.tail) H (yi_stl pc n al st H nc ns nL i) := by
  intro y e
  unfold yi_stl at e
  split at e
  · rename_i w r
    cases hb : (Nat.beq (yi_kd w) 1 && Nat.ble (i + 2) nL) with
    | true => rw [hb] at e; cases e; rw [Bool.and_eq_true] at hb; exact ⟨hn, cq_al2 ha (cq_kd hb.1 (by omega)), cq_sf_t hs, cq_H_r hi⟩
    | false => rw [hb] at e; cases e
  · cases e
theorem cq_sta {i nL : Nat} (hc : (fl.headD false && !(dl i)) = false) (hn : np (pc + n)) (ha : cq_al pr H.2.2.2.2.2 dl al) (hs : cq_sf pr H.2.2.2.2.2 fl st) (hi : cq_I pr ps fg fp fa H) : cq_O pr ps fg fp fa kw dl np rd rv (fl.tail) H (yi_sta pc n al st H nc ns nL i) := by
  intro y e
  unfold yi_sta at e
  split at e
  · rename_i w r
    cases hb : (Nat.ble 2 (yi_kd w) && Nat.ble (i + 1) nL) with
    | true => rw [hb] at e; cases e; exact ⟨hn, cq_al1 ha (cq_V_w hc (cq_sf_h hs)), cq_sf_t hs, cq_H_r hi⟩
    | false => rw [hb] at e; cases e
  · cases e
theorem cq_inc {i nL : Nat} {kk : Int} (hn : np (pc + n)) (ha : cq_al pr H.2.2.2.2.2 dl al) (hs : cq_sf pr H.2.2.2.2.2 fl st) (hi : cq_I pr ps fg fp fa H) : cq_O pr ps fg fp fa kw dl np rd rv (fl) H (yi_inc pc n al st H nc ns nL i kk) := by
  intro y e
  unfold yi_inc at e
  split at e
  · rename_i w hw
    cases hb : Nat.ble (i + 1) nL with
    | true => rw [hb] at e; cases e; exact ⟨hn, cq_al1 ha (cq_Vi _), hs, cq_H_r hi⟩
    | false => rw [hb] at e; cases e
  · cases e
theorem cq_ii {op : Int → Int → Int} (hn : np (pc + n)) (ha : cq_al pr H.2.2.2.2.2 dl al) (hs : cq_sf pr H.2.2.2.2.2 fl st) (hi : cq_I pr ps fg fp fa H) : cq_O pr ps fg fp fa kw dl np rd rv (false :: fl.tail.tail) H (yi_ii pc n al st H nc ns op) := by
  intro y e
  unfold yi_ii at e
  split at e
  · cases e
    exact ⟨hn, ha, cq_sf_g (cq_Vi _) (cq_sf_t (cq_sf_t hs)), cq_H_r hi⟩
  · cases e
theorem cq_iz {op : Int → Int → Int} (hn : np (pc + n)) (ha : cq_al pr H.2.2.2.2.2 dl al) (hs : cq_sf pr H.2.2.2.2.2 fl st) (hi : cq_I pr ps fg fp fa H) : cq_O pr ps fg fp fa kw dl np rd rv (false :: fl.tail.tail) H (yi_iz pc n al st H nc ns op) := by
  intro y e
  unfold yi_iz at e
  split at e
  · rename_i yy xx r
    cases hb : decide (yy = 0) with
    | true => rw [hb] at e; cases e
    | false => rw [hb] at e; cases e; exact ⟨hn, ha, cq_sf_g (cq_Vi _) (cq_sf_t (cq_sf_t hs)), cq_H_r hi⟩
  · cases e
theorem cq_ll {op : Int → Int → Int} (hn : np (pc + n)) (ha : cq_al pr H.2.2.2.2.2 dl al) (hs : cq_sf pr H.2.2.2.2.2 fl st) (hi : cq_I pr ps fg fp fa H) : cq_O pr ps fg fp fa kw dl np rd rv (false :: fl.tail.tail) H (yi_ll pc n al st H nc ns op) := by
  intro y e
  unfold yi_ll at e
  split at e
  · cases e
    exact ⟨hn, ha, cq_sf_g (cq_Vl _) (cq_sf_t (cq_sf_t hs)), cq_H_r hi⟩
  · cases e
theorem cq_lz {op : Int → Int → Int} (hn : np (pc + n)) (ha : cq_al pr H.2.2.2.2.2 dl al) (hs : cq_sf pr H.2.2.2.2.2 fl st) (hi : cq_I pr ps fg fp fa H) : cq_O pr ps fg fp fa kw dl np rd rv (false :: fl.tail.tail) H (yi_lz pc n al st H nc ns op) := by
  intro y e
  unfold yi_lz at e
  split at e
  · rename_i yy xx r
    cases hb : decide (yy = 0) with
    | true => rw [hb] at e; cases e
    | false => rw [hb] at e; cases e; exact ⟨hn, ha, cq_sf_g (cq_Vl _) (cq_sf_t (cq_sf_t hs)), cq_H_r hi⟩
  · cases e
theorem cq_lc (hn : np (pc + n)) (ha : cq_al pr H.2.2.2.2.2 dl al) (hs : cq_sf pr H.2.2.2.2.2 fl st) (hi : cq_I pr ps fg fp fa H) : cq_O pr ps fg fp fa kw dl np rd rv (false :: fl.tail.tail) H (yi_lc pc n al st H nc ns) := by
  intro y e
  unfold yi_lc at e
  split at e
  · cases e
    exact ⟨hn, ha, cq_sf_g (cq_Vi _) (cq_sf_t (cq_sf_t hs)), cq_H_r hi⟩
  · cases e
theorem cq_lw {op : Int → Int → Int} (hn : np (pc + n)) (ha : cq_al pr H.2.2.2.2.2 dl al) (hs : cq_sf pr H.2.2.2.2.2 fl st) (hi : cq_I pr ps fg fp fa H) : cq_O pr ps fg fp fa kw dl np rd rv (false :: fl.tail.tail) H (yi_lw pc n al st H nc ns op) := by
  intro y e
  unfold yi_lw at e
  split at e
  · cases e
    exact ⟨hn, ha, cq_sf_g (cq_Vl _) (cq_sf_t (cq_sf_t hs)), cq_H_r hi⟩
  · cases e
theorem cq_i1 {op : Int → yi_V} (ho : ∀ z, cq_V pr H.2.2.2.2.2 false (op z)) (hn : np (pc + n)) (ha : cq_al pr H.2.2.2.2.2 dl al) (hs : cq_sf pr H.2.2.2.2.2 fl st) (hi : cq_I pr ps fg fp fa H) : cq_O pr ps fg fp fa kw dl np rd rv (false :: fl.tail) H (yi_i1 pc n al st H nc ns op) := by
  intro y e
  unfold yi_i1 at e
  split at e
  · cases e
    exact ⟨hn, ha, cq_sf_g (ho _) (cq_sf_t hs), cq_H_r hi⟩
  · cases e
theorem cq_l1 {op : Int → yi_V} (ho : ∀ z, cq_V pr H.2.2.2.2.2 false (op z)) (hn : np (pc + n)) (ha : cq_al pr H.2.2.2.2.2 dl al) (hs : cq_sf pr H.2.2.2.2.2 fl st) (hi : cq_I pr ps fg fp fa H) : cq_O pr ps fg fp fa kw dl np rd rv (false :: fl.tail) H (yi_l1 pc n al st H nc ns op) := by
  intro y e
  unfold yi_l1 at e
  split at e
  · cases e
    exact ⟨hn, ha, cq_sf_g (ho _) (cq_sf_t hs), cq_H_r hi⟩
  · cases e
theorem cq_dup (hn : np (pc + n)) (ha : cq_al pr H.2.2.2.2.2 dl al) (hs : cq_sf pr H.2.2.2.2.2 fl st) (hi : cq_I pr ps fg fp fa H) : cq_O pr ps fg fp fa kw dl np rd rv (fl.headD false :: fl) H (yi_dup pc n al st H nc ns) := by
  intro y e
  unfold yi_dup at e
  split at e
  · rename_i w r
    cases hb : Nat.beq (yi_cat w) 1 with
    | true => rw [hb] at e; cases e; exact ⟨hn, ha, cq_sf_g (cq_sf_h hs) hs, cq_H_r hi⟩
    | false => rw [hb] at e; cases e
  · cases e
theorem cq_pop (hn : np (pc + n)) (ha : cq_al pr H.2.2.2.2.2 dl al) (hs : cq_sf pr H.2.2.2.2.2 fl st) (hi : cq_I pr ps fg fp fa H) : cq_O pr ps fg fp fa kw dl np rd rv (fl.tail) H (yi_pop pc n al st H nc ns) := by
  intro y e
  unfold yi_pop at e
  split at e
  · rename_i w r
    cases hb : Nat.beq (yi_cat w) 1 with
    | true => rw [hb] at e; cases e; exact ⟨hn, ha, cq_sf_t hs, cq_H_r hi⟩
    | false => rw [hb] at e; cases e
  · cases e
theorem cq_dup2 (hc : fl.any id = false) (hn : np (pc + n)) (ha : cq_al pr H.2.2.2.2.2 dl al) (hs : cq_sf pr H.2.2.2.2.2 fl st) (hi : cq_I pr ps fg fp fa H) : cq_O pr ps fg fp fa kw dl np rd rv ([]) H (yi_dup2 pc n al st H nc ns) := by
  intro y e
  unfold yi_dup2 at e
  have hs := cq_sf_all fl st hc hs
  split at e
  · rename_i w z r _
    cases hb : Nat.beq (yi_cat w) 2 with
    | true => rw [hb] at e; cases e; exact ⟨hn, ha, ⟨hs.1, hs.1, hs.2.1, hs.2.2⟩, cq_H_r hi⟩
    | false =>
      rw [hb] at e
      dsimp only [cond_false] at e
      cases hb2 : Nat.beq (yi_cat z) 1 with
      | true => rw [hb2] at e; cases e; exact ⟨hn, ha, ⟨hs.1, hs.2.1, hs.1, hs.2.1, hs.2.2⟩, cq_H_r hi⟩
      | false => rw [hb2] at e; cases e
  · cases e
theorem cq_n2 {t : Nat} (hn : np (pc + n)) (ht : np t) (c : Bool) : np (bif c then t else pc + n) := by cases c with | true => exact ht | false => exact hn
theorem cq_if1 {c : ClassFile.Cond} {t : Nat} (hn : np (pc + n)) (ht : np t) (ha : cq_al pr H.2.2.2.2.2 dl al) (hs : cq_sf pr H.2.2.2.2.2 fl st) (hi : cq_I pr ps fg fp fa H) : cq_O pr ps fg fp fa kw dl np rd rv (fl.tail) H (yi_if1 pc n al st H nc ns c t) := by
  intro y e
  unfold yi_if1 at e
  split at e
  · cases e
    exact ⟨cq_n2 hn ht _, ha, cq_sf_t hs, cq_H_r hi⟩
  · cases e
theorem cq_if2 {c : ClassFile.Cond} {t : Nat} (hn : np (pc + n)) (ht : np t) (ha : cq_al pr H.2.2.2.2.2 dl al) (hs : cq_sf pr H.2.2.2.2.2 fl st) (hi : cq_I pr ps fg fp fa H) : cq_O pr ps fg fp fa kw dl np rd rv (fl.tail.tail) H (yi_if2 pc n al st H nc ns c t) := by
  intro y e
  unfold yi_if2 at e
  split at e
  · cases e
    exact ⟨cq_n2 hn ht _, ha, cq_sf_t (cq_sf_t hs), cq_H_r hi⟩
  · cases e
theorem cq_nul {b : Bool} {t : Nat} (hn : np (pc + n)) (ht : np t) (ha : cq_al pr H.2.2.2.2.2 dl al) (hs : cq_sf pr H.2.2.2.2.2 fl st) (hi : cq_I pr ps fg fp fa H) : cq_O pr ps fg fp fa kw dl np rd rv (fl.tail) H (yi_nul pc n al st H nc ns b t) := by
  intro y e
  unfold yi_nul at e
  split at e
  · cases e
    exact ⟨cq_n2 hn ht _, ha, cq_sf_t hs, cq_H_r hi⟩
  · cases e
    exact ⟨cq_n2 hn ht _, ha, cq_sf_t hs, cq_H_r hi⟩
  · cases e
theorem cq_tsw {lo hh : Int} {o : List Nat} (hn : ∀ m, np m) (ha : cq_al pr H.2.2.2.2.2 dl al) (hs : cq_sf pr H.2.2.2.2.2 fl st) (hi : cq_I pr ps fg fp fa H) : cq_O pr ps fg fp fa kw dl np rd rv (fl.tail) H (yi_tsw al st H nc ns lo hh o) := by
  intro y e
  unfold yi_tsw at e
  split at e
  · rename_i z r d ts
    cases hb : (decide (z < lo) || decide (hh < z)) with
    | true => rw [hb] at e; cases e; exact ⟨hn _, ha, cq_sf_t hs, cq_H_r hi⟩
    | false =>
      rw [hb] at e
      dsimp only [cond_false] at e
      split at e
      · cases e; exact ⟨hn _, ha, cq_sf_t hs, cq_H_r hi⟩
      · cases e
  · cases e
theorem cq_lsw {d : Int} {pp : List (Int × Int)} (hn : ∀ m, np m) (ha : cq_al pr H.2.2.2.2.2 dl al) (hs : cq_sf pr H.2.2.2.2.2 fl st) (hi : cq_I pr ps fg fp fa H) : cq_O pr ps fg fp fa kw dl np rd rv (fl.tail) H (yi_lsw pc al st H nc ns d pp) := by
  intro y e
  unfold yi_lsw at e
  split at e
  · rename_i z r
    cases hb : decide (0 ≤ (pc : Int) + Op.lookupswitch.offset pp d z) with
    | true => rw [hb] at e; cases e; exact ⟨hn _, ha, cq_sf_t hs, cq_H_r hi⟩
    | false => rw [hb] at e; cases e
  · cases e
theorem cq_rdV {t p k : Nat} (h : 2 ≤ t → ∀ q, H.2.2.1 p k = some q → q < N ∧ (f = false → pr q = false)) : cq_V pr N f (yi_rd H t p k) := by
  intro q hq
  match t with
  | 0 =>
    have hq : (Sum.inl (H.1 p k) : yi_V) = .inr (.inr (some q)) := hq
    cases hq
  | 1 =>
    have hq : (Sum.inr (Sum.inl (H.2.1 p k)) : yi_V) = .inr (.inr (some q)) := hq
    cases hq
  | t + 2 => exact h (by omega) q (Sum.inr.inj (Sum.inr.inj hq))
theorem cq_get {ci k : Nat} (h10 : ∀ q, pr q = true → 10 ≤ q) (hn : np (pc + n)) (ha : cq_al pr H.2.2.2.2.2 dl al) (hs : cq_sf pr H.2.2.2.2.2 fl st) (hi : cq_I pr ps fg fp fa H) : cq_O pr ps fg fp fa kw dl np rd rv ((Nat.ble 2 (yi_tk (zi_ty ci k)) && (fl.headD false || fg ci k)) :: fl.tail) H (yi_get pc n al st H nc ns ci k) := by
  intro y e
  unfold yi_get at e
  split at e
  · rename_i p rest
    cases h1 : Nat.ble 10 p with
    | true =>
      rw [h1] at e
      dsimp only [cond_true] at e
      cases h2 : (Nat.beq (H.2.2.2.1 p) ci && Nat.ble (k + 1) (zi_Fs.getD ci ("", [])).2.length && Nat.ble (ci + 1) 20) with
      | true =>
        rw [h2] at e
        cases e
        rw [Bool.and_eq_true, Bool.and_eq_true] at h2
        have hk := Nat.eq_of_beq_eq_true h2.1.1
        have h20 := Nat.le_of_ble_eq_true h2.2
        have hp := cq_sf_h hs p rfl
        refine ⟨hn, ha, cq_sf_g (cq_rdV (fun ht q hr => ⟨(hi.1 p k q hp.1 hr).1, fun hf => ?_⟩)) (cq_sf_t hs), cq_H_r hi⟩
        rw [Nat.ble_eq_true_of_le ht, Bool.true_and, Bool.or_eq_false_iff] at hf
        cases hpq : pr q with
        | false => rfl
        | true =>
          exfalso
          rcases (hi.1 p k q hp.1 hr).2 hpq with z | z | z
          · rw [hp.2 hf.1] at z
            cases z
          · rw [hk, hf.2] at z
            cases z
          · have := z.2
            omega
      | false => rw [h2] at e; cases e
    | false =>
      rw [h1] at e
      dsimp only [cond_false] at e
      cases h2 : (Nat.ble (p + 1) 4 && Nat.beq ci 100) with
      | false => rw [h2] at e; cases e
      | true =>
        rw [h2] at e
        dsimp only [cond_true] at e
        rw [Bool.and_eq_true] at h2
        have hp4 := Nat.le_of_ble_eq_true h2.1
        cases h3 : Nat.beq k 0 with
        | true =>
          rw [h3] at e
          cases e
          refine ⟨hn, ha, cq_sf_g (fun q hq => ?_) (cq_sf_t hs), cq_H_r hi⟩
          have hq : some (4 + p) = some q := Sum.inr.inj (Sum.inr.inj hq)
          cases hq
          refine ⟨(show 4 + p < H.2.2.2.2.2 by have := hi.2.2.2; omega), fun _ => ?_⟩
          cases hp : pr (4 + p) with
          | false => rfl
          | true => have := h10 _ hp; omega
        | false =>
          rw [h3] at e
          dsimp only [cond_false] at e
          cases h4 : Nat.beq k 1 with
          | true => rw [h4] at e; cases e; exact ⟨hn, ha, cq_sf_g (cq_Vi _) (cq_sf_t hs), cq_H_r hi⟩
          | false => rw [h4] at e; cases e
  · cases e
/-- a write leaves what is guarded -/
theorem cq_wrt {p k : Nat} (hi : cq_I pr ps fg fp fa H) (hp : p < H.2.2.2.2.2 ∧ (kw = true → pr p = false)) (hv : cq_V pr H.2.2.2.2.2 f v) (hv2 : f = false ∨ fg (H.2.2.2.1 p) k = true ∨ (fa = true ∧ 20 ≤ H.2.2.2.1 p)) (hps : ps p k = false) : cq_H pr ps fg fp fa kw H (yi_wrt H p k v) := by
  have hne : ∀ p' k', (pr p' = true ∧ kw = true) ∨ ps p' k' = true → ¬ (p' = p ∧ k' = k) := fun p' k' h e => by
    rcases h with h | h
    · rw [e.1, hp.2 h.2] at h; cases h.1
    · rw [e.1, e.2, hps] at h; cases h
  cases v with
  | inl z => exact ⟨hi, fun p' k' h => ⟨if_neg (hne p' k' h), rfl, rfl⟩, fun _ _ => ⟨rfl, rfl⟩, Nat.le_refl _⟩
  | inr w =>
    cases w with
    | inl z => exact ⟨hi, fun p' k' h => ⟨rfl, if_neg (hne p' k' h), rfl⟩, fun _ _ => ⟨rfl, rfl⟩, Nat.le_refl _⟩
    | inr z =>
      refine ⟨⟨fun p' k' q hp' e => ?_, hi.2.1, hi.2.2.1, hi.2.2.2⟩, fun p' k' h => ⟨rfl, rfl, if_neg (hne p' k' h)⟩, fun _ _ => ⟨rfl, rfl⟩, Nat.le_refl _⟩
      have e : (if p' = p ∧ k' = k then z else H.2.2.1 p' k') = some q := e
      by_cases c : p' = p ∧ k' = k
      · rw [if_pos c] at e
        subst e
        have hq := hv q rfl
        refine ⟨hq.1, fun hq2 => ?_⟩
        rcases hv2 with hv2 | hv2
        · rw [hq.2 hv2] at hq2
          cases hq2
        · right
          rw [c.1, c.2]
          exact hv2
      · rw [if_neg c] at e
        exact hi.1 p' k' q hp' e
theorem cq_tg {g : Bool} {p : Nat} (hc : (g && kw) = false) (h : cq_V pr N g (.inr (.inr (some p)))) : p < N ∧ (kw = true → pr p = false) := ⟨(h p rfl).1, fun hk => (h p rfl).2 (by rw [hk, Bool.and_true] at hc; exact hc)⟩
theorem cq_put {ci k : Nat} (hc : ((fl.headD false && !(fg ci k)) || (fl.tail.headD false && kw) || fp ci k) = false) (hn : np (pc + n)) (ha : cq_al pr H.2.2.2.2.2 dl al) (hs : cq_sf pr H.2.2.2.2.2 fl st) (hi : cq_I pr ps fg fp fa H) : cq_O pr ps fg fp fa kw dl np rd rv (fl.tail.tail) H (yi_put pc n al st H nc ns ci k) := by
  intro y e
  unfold yi_put at e
  split at e
  · rename_i w p rest
    rw [Bool.or_eq_false_iff, Bool.or_eq_false_iff] at hc
    cases h2 : (Nat.ble 10 p && (Nat.beq (H.2.2.2.1 p) ci && Nat.ble (k + 1) (zi_Fs.getD ci ("", [])).2.length && Nat.ble (ci + 1) 20 && yi_fit (zi_ty ci k) w)) with
    | false => rw [h2] at e; cases e
    | true =>
      rw [h2] at e
      cases e
      rw [Bool.and_eq_true, Bool.and_eq_true, Bool.and_eq_true, Bool.and_eq_true] at h2
      have hk := Nat.eq_of_beq_eq_true h2.2.1.1.1
      have hw : cq_H pr ps fg fp fa kw H (yi_wrt H p k w) := by
        refine cq_wrt hi (cq_tg hc.1.2 (cq_sf_h (cq_sf_t hs))) (cq_sf_h hs) ?_ ?_
        · cases hg : fg ci k with
          | true => rw [hk]; exact Or.inr (Or.inl hg)
          | false =>
            have hc := hc.1.1
            rw [hg, Bool.not_false, Bool.and_true] at hc
            exact Or.inl hc
        · cases hp : ps p k with
          | false => rfl
          | true =>
            have a := (hi.2.1 p k hp).1
            rw [hk, hc.2] at a
            cases a
      exact ⟨hn, cq_al_N hw.2.2.2 ha, cq_sf_N hw.2.2.2 _ _ (cq_sf_t (cq_sf_t hs)), hw⟩
  · cases e
theorem cq_gts {k : Nat} (hn : np (pc + n)) (ha : cq_al pr H.2.2.2.2.2 dl al) (hs : cq_sf pr H.2.2.2.2.2 fl st) (hi : cq_I pr ps fg fp fa H) : cq_O pr ps fg fp fa kw dl np rd rv (false :: fl) H (yi_gts pc n al st H nc ns k) := by
  intro y e
  unfold yi_gts at e
  split at e
  · cases e
    exact ⟨hn, ha, cq_sf_g (cq_Vi _) hs, cq_H_r hi⟩
  · cases e
theorem cq_len (hn : np (pc + n)) (ha : cq_al pr H.2.2.2.2.2 dl al) (hs : cq_sf pr H.2.2.2.2.2 fl st) (hi : cq_I pr ps fg fp fa H) : cq_O pr ps fg fp fa kw dl np rd rv (false :: fl.tail) H (yi_len pc n al st H nc ns []) := by
  intro y e
  unfold yi_len at e
  split at e
  · rename_i p rest
    have key : ∀ z : Int, cq_O pr ps fg fp fa kw dl np rd rv (false :: fl.tail) H (some (.inl (pc + n, al, .inl z :: rest, H, nc, ns))) := fun z => cq_in hn ha (cq_sf_g (cq_Vi _) (cq_sf_t hs)) (cq_H_r hi)
    cases h1 : Nat.ble 10 p with
    | true => rw [h1] at e; exact cq_bif (key _) y e
    | false =>
      rw [h1] at e
      dsimp only [cond_false] at e
      cases h2 : Nat.beq p 8 with
      | true => rw [h2] at e; cases e
      | false => rw [h2] at e; exact cq_bif (key _) y e
  · cases e
theorem cq_ald {t : Nat} {fr : Bool} (hfr : (zi_tk t = 0 ∨ zi_tk t = 1) ∨ fr = (fl.tail.headD false || fa)) (hn : np (pc + n)) (hfg : ∀ c k, fg c k = true → c < 20 ∨ 26 < c) (ha : cq_al pr H.2.2.2.2.2 dl al) (hs : cq_sf pr H.2.2.2.2.2 fl st) (hi : cq_I pr ps fg fp fa H) : cq_O pr ps fg fp fa kw dl np rd rv (fr :: fl.tail.tail) H (yi_ald pc n al st H nc ns t []) := by
  intro y e
  unfold yi_ald at e
  split at e
  · rename_i z p rest
    have key : ∀ w : yi_V, cq_V pr H.2.2.2.2.2 fr w → cq_O pr ps fg fp fa kw dl np rd rv (fr :: fl.tail.tail) H (some (.inl (pc + n, al, w :: rest, H, nc, ns))) := fun w hw => cq_in hn ha (cq_sf_g hw (cq_sf_t (cq_sf_t hs))) (cq_H_r hi)
    cases h1 : Nat.ble 10 p with
    | true =>
      rw [h1] at e
      dsimp only [cond_true] at e
      cases h2 : (((Nat.beq (H.2.2.2.1 p) (20 + t) && Nat.ble t 6) || (Nat.beq t 7 && Nat.ble 24 (H.2.2.2.1 p) && Nat.ble (H.2.2.2.1 p) 26)) && decide (0 ≤ z) && decide (z < H.2.2.2.2.1 p)) with
      | false => rw [h2] at e; cases e
      | true =>
        rw [h2] at e
        have hp := cq_sf_h (cq_sf_t hs) p rfl
        refine key _ (cq_rdV (fun ht q hr => ⟨(hi.1 p _ q hp.1 hr).1, fun hf => ?_⟩)) y e
        rcases hfr with hfr | hfr
        · omega
        · rw [hf] at hfr
          have hf := Bool.or_eq_false_iff.mp hfr.symm
          cases hpq : pr q with
          | false => rfl
          | true =>
            exfalso
            rcases (hi.1 p _ q hp.1 hr).2 hpq with w | w | w
            · rw [hp.2 hf.1] at w
              cases w
            · have h5 := hfg _ _ w
              rw [Bool.and_eq_true, Bool.and_eq_true, Bool.or_eq_true, Bool.and_eq_true, Bool.and_eq_true, Bool.and_eq_true] at h2
              rcases h2.1.1 with c | c
              · have := Nat.eq_of_beq_eq_true c.1
                have := Nat.le_of_ble_eq_true c.2
                omega
              · have := Nat.le_of_ble_eq_true c.1.2
                have := Nat.le_of_ble_eq_true c.2
                omega
            · rw [hf.2] at w
              exact absurd w.1 Bool.false_ne_true
    | false =>
      rw [h1] at e
      dsimp only [cond_false] at e
      cases h2 : (Nat.beq p 8 && Nat.beq t 0 && decide (0 ≤ z) && decide (z < ([] : List Int).length)) with
      | true => rw [h2] at e; exact key _ (cq_Vi _) y e
      | false => rw [h2] at e; exact cq_bif (key _ (cq_Vi _)) y e
  · cases e
theorem cq_ast {t : Nat} (h5 : ∀ c k, fp c k = true → c < 20) (hc : (fl.tail.tail.headD false && kw) = false) (hn : np (pc + n)) (ha : cq_al pr H.2.2.2.2.2 dl al) (hs : cq_sf pr H.2.2.2.2.2 fl st) (hi : cq_I pr ps fg fp fa H) : cq_O pr ps fg fp fa kw dl np rd rv (fl.tail.tail.tail) H (yi_ast pc n al st H nc ns t) := by
  intro y e
  unfold yi_ast at e
  split at e
  · rename_i w z p rest
    cases h2 : (Nat.ble 10 p && Nat.beq (H.2.2.2.1 p) (20 + t) && Nat.ble t 3 && decide (0 ≤ z) && decide (z < H.2.2.2.2.1 p) && yi_fit (zi_ft t) w) with
    | false => rw [h2] at e; cases e
    | true =>
      rw [h2] at e
      cases e
      rw [Bool.and_eq_true, Bool.and_eq_true, Bool.and_eq_true, Bool.and_eq_true, Bool.and_eq_true] at h2
      have hk := Nat.eq_of_beq_eq_true h2.1.1.1.1.2
      have ht := Nat.le_of_ble_eq_true h2.1.1.1.2
      have hw : cq_H pr ps fg fp fa kw H (yi_wrt H p z.toNat w) := by
        refine cq_wrt (f := false) hi (cq_tg hc (cq_sf_h (cq_sf_t (cq_sf_t hs)))) ?_ (Or.inl rfl) ?_
        · intro q hq
          subst hq
          have h2 := h2.2
          have : t = 0 ∨ t = 1 ∨ t = 2 ∨ t = 3 := by omega
          rcases this with e | e | e | e <;> (subst e; cases h2)
        · cases hp : ps p z.toNat with
          | false => rfl
          | true =>
            have a := h5 _ _ (hi.2.1 p _ hp).1
            omega
      exact ⟨hn, cq_al_N hw.2.2.2 ha, cq_sf_N hw.2.2.2 _ _ (cq_sf_t (cq_sf_t (cq_sf_t hs))), hw⟩
  · cases e
theorem cq_aas (h5 : ∀ c k, fp c k = true → c < 20) (hc : ((fl.tail.tail.headD false && kw) || (fl.headD false && !fa)) = false) (hn : np (pc + n)) (ha : cq_al pr H.2.2.2.2.2 dl al) (hs : cq_sf pr H.2.2.2.2.2 fl st) (hi : cq_I pr ps fg fp fa H) : cq_O pr ps fg fp fa kw dl np rd rv (fl.tail.tail.tail) H (yi_aas pc n al st H nc ns) := by
  intro y e
  unfold yi_aas at e
  rw [Bool.or_eq_false_iff] at hc
  split at e
  · rename_i w z p rest
    cases h2 : (Nat.ble 10 p && Nat.ble 24 (H.2.2.2.1 p) && Nat.ble (H.2.2.2.1 p) 26 && decide (0 ≤ z) && decide (z < H.2.2.2.2.1 p) && yi_nz H (H.2.2.2.1 p) w) with
    | false => rw [h2] at e; cases e
    | true =>
      rw [h2] at e
      cases e
      rw [Bool.and_eq_true, Bool.and_eq_true, Bool.and_eq_true, Bool.and_eq_true, Bool.and_eq_true] at h2
      have hk := Nat.le_of_ble_eq_true h2.1.1.1.1.2
      have hw : cq_H pr ps fg fp fa kw H (yi_wrt H p z.toNat (.inr (.inr w))) := by
        refine cq_wrt hi (cq_tg hc.1 (cq_sf_h (cq_sf_t (cq_sf_t hs)))) (cq_sf_h hs) ?_ ?_
        · cases hg : fa with
          | true => exact Or.inr (Or.inr ⟨rfl, by omega⟩)
          | false =>
            have hc := hc.2
            rw [hg, Bool.not_false, Bool.and_true] at hc
            exact Or.inl hc
        · cases hp : ps p z.toNat with
          | false => rfl
          | true =>
            have a := h5 _ _ (hi.2.1 p _ hp).1
            omega
      exact ⟨hn, cq_al_N hw.2.2.2 ha, cq_sf_N hw.2.2.2 _ _ (cq_sf_t (cq_sf_t (cq_sf_t hs))), hw⟩
  · cases e
theorem cq_nw {k m : Nat} (hi : cq_I pr ps fg fp fa H) : cq_H pr ps fg fp fa kw H (yi_nw H k m) := by
  have hn : ∀ p k', ps p k' = true → p ≠ H.2.2.2.2.2 := fun p k' h => by have := (hi.2.1 p k' h).2; omega
  have hn2 : ∀ p, pr p = true → p ≠ H.2.2.2.2.2 := fun p h => by have := hi.2.2.1 p h; omega
  have hn3 : ∀ p k', (pr p = true ∧ kw = true) ∨ ps p k' = true → p ≠ H.2.2.2.2.2 := fun p k' h => by
    rcases h with h | h
    · exact hn2 p h.1
    · exact hn p k' h
  refine ⟨⟨fun p k' q hp e => ?_, fun p k' h => ⟨?_, Nat.lt_succ_of_lt (hi.2.1 p k' h).2⟩, fun q hq => Nat.lt_succ_of_lt (hi.2.2.1 q hq), Nat.le_succ_of_le hi.2.2.2⟩, fun p k' hp => ⟨if_neg (hn3 p k' hp), if_neg (hn3 p k' hp), if_neg (hn3 p k' hp)⟩, fun p hp => ⟨if_neg (Nat.ne_of_lt hp), if_neg (Nat.ne_of_lt hp)⟩, Nat.le_succ _⟩
  · have e : (if p = H.2.2.2.2.2 then none else H.2.2.1 p k') = some q := e
    have hp : p < H.2.2.2.2.2 + 1 := hp
    by_cases c : p = H.2.2.2.2.2
    · rw [if_pos c] at e; cases e
    · rw [if_neg c] at e
      have hk : (yi_nw H k m).2.2.2.1 p = H.2.2.2.1 p := if_neg c
      rw [hk]
      have := hi.1 p k' q (by omega) e
      exact ⟨Nat.lt_succ_of_lt this.1, this.2⟩
  · have hk : (yi_nw H k m).2.2.2.1 p = H.2.2.2.1 p := if_neg (hn p k' h)
    rw [hk]
    exact (hi.2.1 p k' h).1
theorem cq_nV (hi : cq_I pr ps fg fp fa H) : cq_V pr (H.2.2.2.2.2 + 1) false (.inr (.inr (some H.2.2.2.2.2))) := by
  intro q e
  have e : some H.2.2.2.2.2 = some q := Sum.inr.inj (Sum.inr.inj e)
  cases e
  refine ⟨Nat.lt_succ_self _, fun _ => ?_⟩
  cases hp : pr H.2.2.2.2.2 with
  | false => rfl
  | true => have := hi.2.2.1 _ hp; omega
theorem cq_nwo {ci : Nat} (hn : np (pc + n)) (ha : cq_al pr H.2.2.2.2.2 dl al) (hs : cq_sf pr H.2.2.2.2.2 fl st) (hi : cq_I pr ps fg fp fa H) : cq_O pr ps fg fp fa kw dl np rd rv (false :: fl) H (yi_nwo pc n al st H nc ns ci) := cq_bif (cq_in hn (cq_al_N (Nat.le_succ _) ha) (cq_sf_g (cq_nV hi) (cq_sf_N (Nat.le_succ _) _ _ hs)) (cq_nw hi))
theorem cq_nwa {t : Nat} (hn : np (pc + n)) (ha : cq_al pr H.2.2.2.2.2 dl al) (hs : cq_sf pr H.2.2.2.2.2 fl st) (hi : cq_I pr ps fg fp fa H) : cq_O pr ps fg fp fa kw dl np rd rv (false :: fl.tail) H (yi_nwa pc n al st H nc ns t) := by
  intro y e
  unfold yi_nwa at e
  split at e
  · exact cq_bif (cq_in hn (cq_al_N (Nat.le_succ _) ha) (cq_sf_g (cq_nV hi) (cq_sf_N (Nat.le_succ _) _ _ (cq_sf_t hs))) (cq_nw hi)) y e
  · cases e
theorem cq_mm {z : Nat} (hn : np (pc + n)) (ha : cq_al pr H.2.2.2.2.2 dl al) (hs : cq_sf pr H.2.2.2.2.2 fl st) (hi : cq_I pr ps fg fp fa H) : cq_O pr ps fg fp fa kw dl np rd rv (false :: fl.tail.tail) H (yi_mm pc n al st H nc ns z) := by
  intro y e
  unfold yi_mm at e
  split at e
  · cases e
    exact ⟨hn, ha, cq_sf_g (cq_Vi _) (cq_sf_t (cq_sf_t hs)), cq_H_r hi⟩
  · cases e
theorem cq_obj (hn : np (pc + n)) (ha : cq_al pr H.2.2.2.2.2 dl al) (hs : cq_sf pr H.2.2.2.2.2 fl st) (hi : cq_I pr ps fg fp fa H) : cq_O pr ps fg fp fa kw dl np rd rv (fl.tail) H (yi_obj pc n al st H nc ns) := by
  intro y e
  unfold yi_obj at e
  split at e
  · exact cq_bif (cq_in hn ha (cq_sf_t hs) (cq_H_r hi)) y e
  · cases e
/-- what a call is given and gives back -/
def cq_vs (pr : Nat → Bool) (N : Nat) (da : List Bool) (vs : List yi_V) : Prop := ∀ j v, vs[j]? = some v → cq_V pr N (da.getD j false) v
def cq_R (pr : Nat → Bool) (ps fg fp : Nat → Nat → Bool) (fa kw rd rv : Bool) (H : yi_H) (r : yi_R) : Prop := r.1.isSome = rv ∧ (∀ v, r.1 = some v → cq_V pr r.2.1.2.2.2.2.2 rd v) ∧ cq_H pr ps fg fp fa kw H r.2.1
def cq_cl (pr : Nat → Bool) (ps fg fp : Nat → Nat → Bool) (fa kw : Bool) (ff dr vr : Nat → Bool) (da : Nat → List Bool) (call : yi_K) : Prop := ∀ mi vs H r, ff mi = true → cq_vs pr H.2.2.2.2.2 (da mi) vs → cq_I pr ps fg fp fa H → call mi vs H = some r → cq_R pr ps fg fp fa kw (dr mi) (vr mi) H r
def cq_ar (da : List Bool) (fl : List Bool) (k : Nat) : Bool := (List.range k).all (fun j => !(fl.getD (k - 1 - j) false) || da.getD j false)
theorem cq_inv {call : yi_K} {ff dr vr : Nat → Bool} {da : Nat → List Bool} {mi k : Nat} (hc : cq_cl pr ps fg fp fa kw ff dr vr da call) (hf : ff mi = true) (h1 : cq_ar (da mi) fl k = true) (hn : np (pc + n)) (ha : cq_al pr H.2.2.2.2.2 dl al) (hs : cq_sf pr H.2.2.2.2.2 fl st) (hi : cq_I pr ps fg fp fa H) : cq_O pr ps fg fp fa kw dl np rd rv (bif vr mi then dr mi :: fl.drop k else fl.drop k) H (yi_inv pc n al st H nc ns call mi k) := by
  intro y e
  unfold yi_inv at e
  cases hb : (Nat.ble k st.length && Nat.ble (yi_cats (st.drop k)) 8) with
  | false => rw [hb] at e; cases e
  | true =>
    rw [hb] at e
    dsimp only [cond_true] at e
    rw [Bool.and_eq_true] at hb
    have hk := Nat.le_of_ble_eq_true hb.1
    have hvs : cq_vs pr H.2.2.2.2.2 (da mi) (st.take k).reverse := by
      intro j v hj
      have hl : (st.take k).length = k := by rw [List.length_take]; omega
      have hjk : j < k := by
        have := (List.getElem?_eq_some_iff.mp hj).1
        rw [List.length_reverse, hl] at this
        exact this
      rw [List.getElem?_reverse (by rw [hl]; exact hjk), hl, List.getElem?_take, if_pos (by omega)] at hj
      have h1 := List.all_eq_true.mp h1 j (List.mem_range.mpr hjk)
      rw [Bool.or_eq_true, Bool.not_eq_true'] at h1
      refine cq_V_w ?_ (cq_sf_get fl st _ v hs hj)
      rcases h1 with h1 | h1
      · rw [h1]; rfl
      · rw [h1]; exact Bool.and_false _
    have hd := cq_sf_drop k fl st hs
    split at e
    · rename_i q hq
      have hr := hc mi _ H q hf hvs hi hq
      have hN := hr.2.2.2.2.2
      split at e
      · rename_i v hv
        cases e
        have hv2 := hr.1
        rw [hv] at hv2
        have hv2 : true = vr mi := hv2
        refine ⟨hn, cq_al_N hN ha, ?_, hr.2.2⟩
        rw [← hv2]
        exact cq_sf_g (hr.2.1 v hv) (cq_sf_N hN _ _ hd)
      · rename_i hv
        cases e
        have hv2 := hr.1
        rw [hv] at hv2
        have hv2 : false = vr mi := hv2
        refine ⟨hn, cq_al_N hN ha, ?_, hr.2.2⟩
        rw [← hv2]
        exact cq_sf_N hN _ _ hd
    · cases e
theorem cq_ret {k : Nat} {ret : Option FieldType} (hc : (fl.headD false && !rd) = false) (hrv : ret.isSome = rv) (ha : cq_al pr H.2.2.2.2.2 dl al) (hs : cq_sf pr H.2.2.2.2.2 fl st) (hi : cq_I pr ps fg fp fa H) : cq_O pr ps fg fp fa kw dl np rd rv ([]) H (yi_ret k ret st) := by
  intro y e
  unfold yi_ret at e
  split at e
  · rename_i ty v
    have key : cq_O pr ps fg fp fa kw dl np rd rv [] H (some (.inr (some v))) := fun y e => by
      cases e
      refine ⟨hrv, fun w ew => ?_⟩
      cases ew
      exact cq_V_w hc (cq_sf_h hs)
    exact cq_bif key y e
  · cases e
theorem cq_rtv {ret : Option FieldType} {f2 : List Bool} (hrv : ret.isSome = rv) : cq_O pr ps fg fp fa kw dl np rd rv f2 H (yi_rtv ret st) := by
  intro y e
  unfold yi_rtv at e
  split at e
  · cases e
    exact ⟨hrv, fun w ew => by cases ew⟩
  · cases e
end CQ
