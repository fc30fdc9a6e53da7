/-! What a run can reach: references that it never holds it can't write to. -/
section CP
variable (pr : Nat → Bool) (sl ps : Nat → Nat → Bool) (ko : Nat → Nat) (fg fp : Nat → Nat → Bool)
def cp_V (v : yi_V) : Prop := ∀ q, v = .inr (.inr (some q)) → pr q = false
def cp_sf : List Bool → List yi_V → Prop
  | _, [] => True
  | [], v :: st => cp_V pr v ∧ cp_sf [] st
  | f :: fl, v :: st => (f = false → cp_V pr v) ∧ cp_sf fl st
def cp_al (dl : Nat → Bool) (al : List (Nat × yi_V)) : Prop := ∀ q ∈ al, dl q.1 = false → cp_V pr q.2
/-- who holds what is guarded: places sl alone; what places ps hold stays -/
def cp_I (H : yi_H) : Prop := (∀ p k q, H.2.2.1 p k = some q → pr q = true → sl p k = true) ∧ (∀ p k, (sl p k = true ∨ ps p k = true) → H.2.2.2.1 p = ko p ∧ p < H.2.2.2.2.2) ∧ (∀ q, pr q = true → q < H.2.2.2.2.2)
def cp_H (H H' : yi_H) : Prop := cp_I pr sl ps ko H' ∧ (∀ p k, pr p = true → H'.1 p k = H.1 p k ∧ H'.2.1 p k = H.2.1 p k) ∧ (∀ p k, ps p k = true → H'.2.2.1 p k = H.2.2.1 p k)
def cp_O (dl : Nat → Bool) (fl : List Bool) (H : yi_H) (x : yi_O) : Prop := ∀ y, x = some y → (match y with | .inl g => cp_al pr dl g.2.1 ∧ cp_sf pr fl g.2.2.1 ∧ cp_H pr sl ps ko H g.2.2.2.1 | .inr v => ∀ w, v = some w → cp_V pr w)
end CP
section CP
variable {pr : Nat → Bool} {sl ps : Nat → Nat → Bool} {ko : Nat → Nat} {fg fp : Nat → Nat → Bool} {dl : Nat → Bool} {fl : List Bool} {pc n : Nat} {al : List (Nat × yi_V)} {st r : List yi_V} {H H' : yi_H} {nc ns : Nat} {v : yi_V} {x : yi_O}
theorem cp_Vi (z : Int) : cp_V pr (.inl z) := fun q e => by cases e
theorem cp_Vl (z : Int) : cp_V pr (.inr (.inl z)) := fun q e => by cases e
theorem cp_Vn : cp_V pr (.inr (.inr none)) := fun q e => by cases e
theorem cp_sf_n : cp_sf pr fl [] := by cases fl <;> trivial
theorem cp_sf_h (h : cp_sf pr fl (v :: st)) (hf : fl.headD false = false) : cp_V pr v := by
  cases fl with
  | nil => exact h.1
  | cons f fl => exact h.1 hf
theorem cp_sf_t (h : cp_sf pr fl (v :: st)) : cp_sf pr fl.tail st := by
  cases fl with
  | nil => exact h.2
  | cons f fl => exact h.2
theorem cp_sf_f (h : cp_V pr v) (h2 : cp_sf pr fl st) : cp_sf pr (false :: fl) (v :: st) := ⟨fun _ => h, h2⟩
theorem cp_sf_g {f : Bool} (h : f = false → cp_V pr v) (h2 : cp_sf pr fl st) : cp_sf pr (f :: fl) (v :: st) := ⟨h, h2⟩
theorem cp_H_r (h : cp_I pr sl ps ko H) : cp_H pr sl ps ko H H := ⟨h, fun _ _ _ => ⟨rfl, rfl⟩, fun _ _ _ => rfl⟩

theorem cp_sf_all : ∀ (fl : List Bool) (st : List yi_V), fl.any id = false → cp_sf pr fl st → cp_sf pr [] st
  | _, [], _, _ => trivial
  | [], _ :: _, _, h => h
  | f :: fl, v :: st, e, h => by
    have e : (f || fl.any id) = false := e
    rw [Bool.or_eq_false_iff] at e
    exact ⟨h.1 e.1, cp_sf_all fl st e.2 h.2⟩
theorem cp_sf_0 : ∀ (fl : List Bool) (st : List yi_V), cp_sf pr [] st → cp_sf pr fl st
  | _, [], _ => cp_sf_n
  | [], _ :: _, h => h
  | _ :: fl, _ :: st, h => ⟨fun _ => h.1, cp_sf_0 fl st h.2⟩
theorem cp_sf_get : ∀ (fl : List Bool) (st : List yi_V) (i : Nat) (v : yi_V), cp_sf pr fl st → st[i]? = some v → fl.getD i false = false → cp_V pr v
  | _, [], i, v, _, e, _ => by cases e
  | fl, w :: st, 0, v, h, e, f => by
    have e : some w = some v := e
    cases e
    refine cp_sf_h h ?_
    cases fl with
    | nil => rfl
    | cons a b => exact f
  | fl, w :: st, i + 1, v, h, e, f => by
    refine cp_sf_get fl.tail st i v (cp_sf_t h) e ?_
    cases fl with
    | nil => rfl
    | cons a b => exact f
theorem cp_sf_drop : ∀ (k : Nat) (fl : List Bool) (st : List yi_V), cp_sf pr fl st → cp_sf pr (fl.drop k) (st.drop k)
  | 0, _, _, h => h
  | k + 1, [], [], _ => trivial
  | k + 1, f :: fl, [], _ => cp_sf_n
  | k + 1, [], _ :: st, h => by
    have := cp_sf_drop k [] st h.2
    rw [List.drop_nil] at this ⊢
    exact this
  | k + 1, f :: fl, _ :: st, h => cp_sf_drop k fl st h.2
theorem cp_loc {j : Nat} : ∀ al : List (Nat × yi_V), yi_loc al j = some v → (j, v) ∈ al
  | [], h => by
    have h : (none : Option yi_V) = some v := h
    cases h
  | q :: al, h => by
    have h : (bif Nat.beq q.1 j then some q.2 else yi_loc al j) = some v := h
    cases e : Nat.beq q.1 j with
    | true =>
      rw [e] at h
      have e := Nat.eq_of_beq_eq_true e
      have h : some q.2 = some v := h
      cases h
      subst e
      exact List.mem_cons_self ..
    | false =>
      rw [e] at h
      exact List.mem_cons_of_mem _ (cp_loc al h)
theorem cp_del1 {i : Nat} : ∀ al : List (Nat × yi_V), ∀ q ∈ yi_del1 i al, q ∈ al
  | [], _, h => h
  | a :: al, q, h => by
    have h : q ∈ (bif (!(Nat.beq a.1 i) && !(Nat.beq (a.1 + 1) i && Nat.beq (yi_cat a.2) 2)) then a :: yi_del1 i al else yi_del1 i al) := h
    cases e : (!(Nat.beq a.1 i) && !(Nat.beq (a.1 + 1) i && Nat.beq (yi_cat a.2) 2)) with
    | true =>
      rw [e] at h
      rcases List.mem_cons.mp h with z | z
      · exact z ▸ List.mem_cons_self ..
      · exact List.mem_cons_of_mem _ (cp_del1 al q z)
    | false => rw [e] at h; exact List.mem_cons_of_mem _ (cp_del1 al q h)
theorem cp_del2 {i : Nat} : ∀ al : List (Nat × yi_V), ∀ q ∈ yi_del2 i al, q ∈ al
  | [], _, h => h
  | a :: al, q, h => by
    have h : q ∈ (bif (!(Nat.beq a.1 i) && (!(Nat.beq a.1 (i + 1)) && !(Nat.beq (a.1 + 1) i && Nat.beq (yi_cat a.2) 2))) then a :: yi_del2 i al else yi_del2 i al) := h
    cases e : (!(Nat.beq a.1 i) && (!(Nat.beq a.1 (i + 1)) && !(Nat.beq (a.1 + 1) i && Nat.beq (yi_cat a.2) 2))) with
    | true =>
      rw [e] at h
      rcases List.mem_cons.mp h with z | z
      · exact z ▸ List.mem_cons_self ..
      · exact List.mem_cons_of_mem _ (cp_del2 al q z)
    | false => rw [e] at h; exact List.mem_cons_of_mem _ (cp_del2 al q h)
theorem cp_al1 {i : Nat} (ha : cp_al pr dl al) (h : dl i = false → cp_V pr v) : cp_al pr dl ((i, v) :: yi_del1 i al) := by
  intro q hq
  rcases List.mem_cons.mp hq with z | z
  · subst z; exact h
  · exact ha q (cp_del1 al q z)
theorem cp_al2 {i : Nat} (ha : cp_al pr dl al) (h : dl i = false → cp_V pr v) : cp_al pr dl ((i, v) :: yi_del2 i al) := by
  intro q hq
  rcases List.mem_cons.mp hq with z | z
  · subst z; exact h
  · exact ha q (cp_del2 al q z)
theorem cp_kd {k : Nat} (h : Nat.beq (yi_kd v) k = true) (hk : k < 2) : cp_V pr v := by
  have h := Nat.eq_of_beq_eq_true h
  intro q e
  subst e
  have h : 2 = k := h
  omega
theorem cp_none {fl' : List Bool} : cp_O pr sl ps ko dl fl' H none := fun y e => by cases e
theorem cp_bif {fl' : List Bool} {c : Bool} (h : cp_O pr sl ps ko dl fl' H x) : cp_O pr sl ps ko dl fl' H (bif c then x else none) := by
  cases c with
  | true => exact h
  | false => exact cp_none
theorem cp_in {fl' : List Bool} {g : yi_F} (ha : cp_al pr dl g.2.1) (hs : cp_sf pr fl' g.2.2.1) (hh : cp_H pr sl ps ko H g.2.2.2.1) : cp_O pr sl ps ko dl fl' H (some (.inl g)) := fun y e => by
  cases e
  exact ⟨ha, hs, hh⟩
theorem cp_ps (hv : cp_V pr v) (ha : cp_al pr dl al) (hs : cp_sf pr fl st) (hi : cp_I pr sl ps ko H) : cp_O pr sl ps ko dl (false :: fl) H (yi_ps pc n al st H nc ns v) := cp_in ha (cp_sf_f hv hs) (cp_H_r hi)
theorem cp_ld {i k : Nat} (hk : k < 2) (ha : cp_al pr dl al) (hs : cp_sf pr fl st) (hi : cp_I pr sl ps ko H) : cp_O pr sl ps ko dl (false :: fl) H (yi_ld pc n al st H nc ns i k) := by
  intro y e
  unfold yi_ld at e
  split at e
  · rename_i w hw
    cases hb : Nat.beq (yi_kd w) k with
    | true => rw [hb] at e; cases e; exact ⟨ha, cp_sf_f (cp_kd hb hk) hs, cp_H_r hi⟩
    | false => rw [hb] at e; cases e
  · cases e
theorem cp_lda {i : Nat} (ha : cp_al pr dl al) (hs : cp_sf pr fl st) (hi : cp_I pr sl ps ko H) : cp_O pr sl ps ko dl (dl i :: fl) H (yi_lda pc n al st H nc ns i) := by
  intro y e
  unfold yi_lda at e
  split at e
  · rename_i w hw
    cases hb : Nat.ble 2 (yi_kd w) with
    | true => rw [hb] at e; cases e; exact ⟨ha, cp_sf_g (ha _ (cp_loc al hw)) hs, cp_H_r hi⟩
    | false => rw [hb] at e; cases e
  · cases e
theorem cp_sti {i nL : Nat} (ha : cp_al pr dl al) (hs : cp_sf pr fl st) (hi : cp_I pr sl ps ko H) : cp_O pr sl ps ko dl (fl.tail) H (yi_sti pc n al st H nc ns nL i) := by
  intro y e
  unfold yi_sti at e
  split at e
  · rename_i w r
    cases hb : (Nat.beq (yi_kd w) 0 && Nat.ble (i + 1) nL) with
    | true => rw [hb] at e; cases e; rw [Bool.and_eq_true] at hb; exact ⟨cp_al1 ha (fun _ => cp_kd hb.1 (by omega)), cp_sf_t hs, cp_H_r hi⟩
    | false => rw [hb] at e; cases e
  · cases e
theorem cp_stl {i nL : Nat} (ha : cp_al pr dl al) (hs : cp_sf pr fl st) (hi : cp_I pr sl ps ko H) : cp_O pr sl ps ko dl (fl.tail) H (yi_stl pc n al st H nc ns nL i) := by
  intro y e
  unfold yi_stl at e
  split at e
  · rename_i w r
    cases hb : (Nat.beq (yi_kd w) 1 && Nat.ble (i + 2) nL) with
    | true => rw [hb] at e; cases e; rw [Bool.and_eq_true] at hb; exact ⟨cp_al2 ha (fun _ => cp_kd hb.1 (by omega)), cp_sf_t hs, cp_H_r hi⟩
    | false => rw [hb] at e; cases e
  · cases e
theorem cp_sta {i nL : Nat} (hc : (fl.headD false && !(dl i)) = false) (ha : cp_al pr dl al) (hs : cp_sf pr fl st) (hi : cp_I pr sl ps ko H) : cp_O pr sl ps ko dl (fl.tail) H (yi_sta pc n al st H nc ns nL i) := by
  intro y e
  unfold yi_sta at e
  split at e
  · rename_i w r
    cases hb : (Nat.ble 2 (yi_kd w) && Nat.ble (i + 1) nL) with
    | true => rw [hb] at e; cases e; exact ⟨cp_al1 ha (fun hd => cp_sf_h hs (by rw [hd, Bool.not_false, Bool.and_true] at hc; exact hc)), cp_sf_t hs, cp_H_r hi⟩
    | false => rw [hb] at e; cases e
  · cases e
theorem cp_inc {i nL : Nat} {kk : Int} (ha : cp_al pr dl al) (hs : cp_sf pr fl st) (hi : cp_I pr sl ps ko H) : cp_O pr sl ps ko dl (fl) H (yi_inc pc n al st H nc ns nL i kk) := by
  intro y e
  unfold yi_inc at e
  split at e
  · rename_i w hw
    cases hb : Nat.ble (i + 1) nL with
    | true => rw [hb] at e; cases e; exact ⟨cp_al1 ha (fun _ => cp_Vi _), hs, cp_H_r hi⟩
    | false => rw [hb] at e; cases e
  · cases e
theorem cp_ii {op : Int → Int → Int} (ha : cp_al pr dl al) (hs : cp_sf pr fl st) (hi : cp_I pr sl ps ko H) : cp_O pr sl ps ko dl (false :: fl.tail.tail) H (yi_ii pc n al st H nc ns op) := by
  intro y e
  unfold yi_ii at e
  split at e
  · cases e
    exact ⟨ha, cp_sf_f (cp_Vi _) (cp_sf_t (cp_sf_t hs)), cp_H_r hi⟩
  · cases e
theorem cp_iz {op : Int → Int → Int} (ha : cp_al pr dl al) (hs : cp_sf pr fl st) (hi : cp_I pr sl ps ko H) : cp_O pr sl ps ko dl (false :: fl.tail.tail) H (yi_iz pc n al st H nc ns op) := by
  intro y e
  unfold yi_iz at e
  split at e
  · rename_i yy xx r
    cases hb : decide (yy = 0) with
    | true => rw [hb] at e; cases e
    | false => rw [hb] at e; cases e; exact ⟨ha, cp_sf_f (cp_Vi _) (cp_sf_t (cp_sf_t hs)), cp_H_r hi⟩
  · cases e
theorem cp_ll {op : Int → Int → Int} (ha : cp_al pr dl al) (hs : cp_sf pr fl st) (hi : cp_I pr sl ps ko H) : cp_O pr sl ps ko dl (false :: fl.tail.tail) H (yi_ll pc n al st H nc ns op) := by
  intro y e
  unfold yi_ll at e
  split at e
  · cases e
    exact ⟨ha, cp_sf_f (cp_Vl _) (cp_sf_t (cp_sf_t hs)), cp_H_r hi⟩
  · cases e
theorem cp_lz {op : Int → Int → Int} (ha : cp_al pr dl al) (hs : cp_sf pr fl st) (hi : cp_I pr sl ps ko H) : cp_O pr sl ps ko dl (false :: fl.tail.tail) H (yi_lz pc n al st H nc ns op) := by
  intro y e
  unfold yi_lz at e
  split at e
  · rename_i yy xx r
    cases hb : decide (yy = 0) with
    | true => rw [hb] at e; cases e
    | false => rw [hb] at e; cases e; exact ⟨ha, cp_sf_f (cp_Vl _) (cp_sf_t (cp_sf_t hs)), cp_H_r hi⟩
  · cases e
theorem cp_lc (ha : cp_al pr dl al) (hs : cp_sf pr fl st) (hi : cp_I pr sl ps ko H) : cp_O pr sl ps ko dl (false :: fl.tail.tail) H (yi_lc pc n al st H nc ns) := by
  intro y e
  unfold yi_lc at e
  split at e
  · cases e
    exact ⟨ha, cp_sf_f (cp_Vi _) (cp_sf_t (cp_sf_t hs)), cp_H_r hi⟩
  · cases e
theorem cp_lw {op : Int → Int → Int} (ha : cp_al pr dl al) (hs : cp_sf pr fl st) (hi : cp_I pr sl ps ko H) : cp_O pr sl ps ko dl (false :: fl.tail.tail) H (yi_lw pc n al st H nc ns op) := by
  intro y e
  unfold yi_lw at e
  split at e
  · cases e
    exact ⟨ha, cp_sf_f (cp_Vl _) (cp_sf_t (cp_sf_t hs)), cp_H_r hi⟩
  · cases e
theorem cp_i1 {op : Int → yi_V} (ho : ∀ z, cp_V pr (op z)) (ha : cp_al pr dl al) (hs : cp_sf pr fl st) (hi : cp_I pr sl ps ko H) : cp_O pr sl ps ko dl (false :: fl.tail) H (yi_i1 pc n al st H nc ns op) := by
  intro y e
  unfold yi_i1 at e
  split at e
  · cases e
    exact ⟨ha, cp_sf_f (ho _) (cp_sf_t hs), cp_H_r hi⟩
  · cases e
theorem cp_l1 {op : Int → yi_V} (ho : ∀ z, cp_V pr (op z)) (ha : cp_al pr dl al) (hs : cp_sf pr fl st) (hi : cp_I pr sl ps ko H) : cp_O pr sl ps ko dl (false :: fl.tail) H (yi_l1 pc n al st H nc ns op) := by
  intro y e
  unfold yi_l1 at e
  split at e
  · cases e
    exact ⟨ha, cp_sf_f (ho _) (cp_sf_t hs), cp_H_r hi⟩
  · cases e
theorem cp_dup (ha : cp_al pr dl al) (hs : cp_sf pr fl st) (hi : cp_I pr sl ps ko H) : cp_O pr sl ps ko dl (fl.headD false :: fl) H (yi_dup pc n al st H nc ns) := by
  intro y e
  unfold yi_dup at e
  split at e
  · rename_i w r
    cases hb : Nat.beq (yi_cat w) 1 with
    | true => rw [hb] at e; cases e; exact ⟨ha, cp_sf_g (cp_sf_h hs) hs, cp_H_r hi⟩
    | false => rw [hb] at e; cases e
  · cases e
theorem cp_pop (ha : cp_al pr dl al) (hs : cp_sf pr fl st) (hi : cp_I pr sl ps ko H) : cp_O pr sl ps ko dl (fl.tail) H (yi_pop pc n al st H nc ns) := by
  intro y e
  unfold yi_pop at e
  split at e
  · rename_i w r
    cases hb : Nat.beq (yi_cat w) 1 with
    | true => rw [hb] at e; cases e; exact ⟨ha, cp_sf_t hs, cp_H_r hi⟩
    | false => rw [hb] at e; cases e
  · cases e
theorem cp_dup2 (hc : fl.any id = false) (ha : cp_al pr dl al) (hs : cp_sf pr fl st) (hi : cp_I pr sl ps ko H) : cp_O pr sl ps ko dl ([]) H (yi_dup2 pc n al st H nc ns) := by
  intro y e
  unfold yi_dup2 at e
  have hs := cp_sf_all fl st hc hs
  split at e
  · rename_i w z r _
    cases hb : Nat.beq (yi_cat w) 2 with
    | true => rw [hb] at e; cases e; exact ⟨ha, ⟨hs.1, hs.1, hs.2.1, hs.2.2⟩, cp_H_r hi⟩
    | false =>
      rw [hb] at e
      dsimp only [cond_false] at e
      cases hb2 : Nat.beq (yi_cat z) 1 with
      | true => rw [hb2] at e; cases e; exact ⟨ha, ⟨hs.1, hs.2.1, hs.1, hs.2.1, hs.2.2⟩, cp_H_r hi⟩
      | false => rw [hb2] at e; cases e
  · cases e
theorem cp_if1 {c : ClassFile.Cond} {t : Nat} (ha : cp_al pr dl al) (hs : cp_sf pr fl st) (hi : cp_I pr sl ps ko H) : cp_O pr sl ps ko dl (fl.tail) H (yi_if1 pc n al st H nc ns c t) := by
  intro y e
  unfold yi_if1 at e
  split at e
  · cases e
    exact ⟨ha, cp_sf_t hs, cp_H_r hi⟩
  · cases e
theorem cp_if2 {c : ClassFile.Cond} {t : Nat} (ha : cp_al pr dl al) (hs : cp_sf pr fl st) (hi : cp_I pr sl ps ko H) : cp_O pr sl ps ko dl (fl.tail.tail) H (yi_if2 pc n al st H nc ns c t) := by
  intro y e
  unfold yi_if2 at e
  split at e
  · cases e
    exact ⟨ha, cp_sf_t (cp_sf_t hs), cp_H_r hi⟩
  · cases e
theorem cp_nul {b : Bool} {t : Nat} (ha : cp_al pr dl al) (hs : cp_sf pr fl st) (hi : cp_I pr sl ps ko H) : cp_O pr sl ps ko dl (fl.tail) H (yi_nul pc n al st H nc ns b t) := by
  intro y e
  unfold yi_nul at e
  split at e
  · cases e
    exact ⟨ha, cp_sf_t hs, cp_H_r hi⟩
  · cases e
    exact ⟨ha, cp_sf_t hs, cp_H_r hi⟩
  · cases e
theorem cp_tsw {lo hh : Int} {o : List Nat} (ha : cp_al pr dl al) (hs : cp_sf pr fl st) (hi : cp_I pr sl ps ko H) : cp_O pr sl ps ko dl (fl.tail) H (yi_tsw al st H nc ns lo hh o) := by
  intro y e
  unfold yi_tsw at e
  split at e
  · rename_i z r d ts
    cases hb : (decide (z < lo) || decide (hh < z)) with
    | true => rw [hb] at e; cases e; exact ⟨ha, cp_sf_t hs, cp_H_r hi⟩
    | false =>
      rw [hb] at e
      dsimp only [cond_false] at e
      split at e
      · cases e; exact ⟨ha, cp_sf_t hs, cp_H_r hi⟩
      · cases e
  · cases e
theorem cp_lsw {d : Int} {pp : List (Int × Int)} (ha : cp_al pr dl al) (hs : cp_sf pr fl st) (hi : cp_I pr sl ps ko H) : cp_O pr sl ps ko dl (fl.tail) H (yi_lsw pc al st H nc ns d pp) := by
  intro y e
  unfold yi_lsw at e
  split at e
  · rename_i z r
    cases hb : decide (0 ≤ (pc : Int) + Op.lookupswitch.offset pp d z) with
    | true => rw [hb] at e; cases e; exact ⟨ha, cp_sf_t hs, cp_H_r hi⟩
    | false => rw [hb] at e; cases e
  · cases e
theorem cp_get {ci k : Nat} (h10 : ∀ q, pr q = true → 10 ≤ q) (hfg : ∀ p k, sl p k = true → fg (ko p) k = true) (ha : cp_al pr dl al) (hs : cp_sf pr fl st) (hi : cp_I pr sl ps ko H) : cp_O pr sl ps ko dl (fg ci k :: fl.tail) H (yi_get pc n al st H nc ns ci k) := by
  intro y e
  unfold yi_get at e
  split at e
  · rename_i p rest
    cases h1 : Nat.ble 10 p with
    | true =>
      rw [h1] at e
      dsimp only [cond_true] at e
      cases h2 : (Nat.beq (H.2.2.2.1 p) ci && Nat.ble (k + 1) (zi_Fs.getD ci ("", [])).2.length && Nat.ble (ci + 1) 20) with
      | true =>
        rw [h2] at e
        cases e
        rw [Bool.and_eq_true, Bool.and_eq_true] at h2
        have hk := Nat.eq_of_beq_eq_true h2.1.1
        refine ⟨ha, cp_sf_g (fun hf q hq => ?_) (cp_sf_t hs), cp_H_r hi⟩
        cases hp : pr q with
        | false => rfl
        | true =>
          exfalso
          have hr : H.2.2.1 p k = some q := by
            unfold yi_rd at hq
            split at hq
            · cases hq
            · cases hq
            · have hq := Sum.inr.inj (Sum.inr.inj hq)
              exact hq
          have hsl := hi.1 p k q hr hp
          have a := (hi.2.1 p k (Or.inl hsl)).1
          have b := hfg p k hsl
          rw [← a, hk, hf] at b
          cases b
      | false => rw [h2] at e; cases e
    | false =>
      rw [h1] at e
      dsimp only [cond_false] at e
      cases h2 : (Nat.ble (p + 1) 4 && Nat.beq ci 100) with
      | false => rw [h2] at e; cases e
      | true =>
        rw [h2] at e
        dsimp only [cond_true] at e
        rw [Bool.and_eq_true] at h2
        have hp4 := Nat.le_of_ble_eq_true h2.1
        cases h3 : Nat.beq k 0 with
        | true =>
          rw [h3] at e
          cases e
          refine ⟨ha, cp_sf_g (fun _ q hq => ?_) (cp_sf_t hs), cp_H_r hi⟩
          have hq : some (4 + p) = some q := Sum.inr.inj (Sum.inr.inj hq)
          cases hq
          cases hp : pr (4 + p) with
          | false => rfl
          | true => have := h10 _ hp; omega
        | false =>
          rw [h3] at e
          dsimp only [cond_false] at e
          cases h4 : Nat.beq k 1 with
          | true => rw [h4] at e; cases e; exact ⟨ha, cp_sf_g (fun _ => cp_Vi _) (cp_sf_t hs), cp_H_r hi⟩
          | false => rw [h4] at e; cases e
  · cases e
/-- a write leaves what is guarded -/
theorem cp_wrt {p k : Nat} (hi : cp_I pr sl ps ko H) (hp : pr p = false) (hv : cp_V pr v) (hps : ps p k = false) : cp_H pr sl ps ko H (yi_wrt H p k v) := by
  cases v with
  | inl z => exact ⟨hi, fun p' k' h => ⟨if_neg (fun e => by rw [e.1, hp] at h; cases h), rfl⟩, fun _ _ _ => rfl⟩
  | inr w =>
    cases w with
    | inl z => exact ⟨hi, fun p' k' h => ⟨rfl, if_neg (fun e => by rw [e.1, hp] at h; cases h)⟩, fun _ _ _ => rfl⟩
    | inr z =>
      refine ⟨⟨fun p' k' q e hq => ?_, hi.2.1, hi.2.2⟩, fun _ _ _ => ⟨rfl, rfl⟩, fun p' k' h => if_neg (fun e => by rw [e.1, e.2, hps] at h; cases h)⟩
      have e : (if p' = p ∧ k' = k then z else H.2.2.1 p' k') = some q := e
      by_cases c : p' = p ∧ k' = k
      · rw [if_pos c] at e
        subst e
        have := hv q rfl
        rw [this] at hq
        cases hq
      · rw [if_neg c] at e
        exact hi.1 p' k' q e hq
theorem cp_pV {p : Nat} (h : cp_V pr (.inr (.inr (some p)))) : pr p = false := h p rfl
theorem cp_put {ci k : Nat} (hfp : ∀ p k, ps p k = true → fp (ko p) k = true) (hc : (fl.headD false || fl.tail.headD false || fp ci k) = false) (ha : cp_al pr dl al) (hs : cp_sf pr fl st) (hi : cp_I pr sl ps ko H) : cp_O pr sl ps ko dl (fl.tail.tail) H (yi_put pc n al st H nc ns ci k) := by
  intro y e
  unfold yi_put at e
  split at e
  · rename_i w p rest
    rw [Bool.or_eq_false_iff, Bool.or_eq_false_iff] at hc
    cases h2 : (Nat.ble 10 p && (Nat.beq (H.2.2.2.1 p) ci && Nat.ble (k + 1) (zi_Fs.getD ci ("", [])).2.length && Nat.ble (ci + 1) 20 && yi_fit (zi_ty ci k) w)) with
    | false => rw [h2] at e; cases e
    | true =>
      rw [h2] at e
      cases e
      rw [Bool.and_eq_true, Bool.and_eq_true, Bool.and_eq_true, Bool.and_eq_true] at h2
      have hk := Nat.eq_of_beq_eq_true h2.2.1.1.1
      refine ⟨ha, cp_sf_t (cp_sf_t hs), cp_wrt hi (cp_pV (cp_sf_h (cp_sf_t hs) hc.1.2)) (cp_sf_h hs hc.1.1) ?_⟩
      cases hp : ps p k with
      | false => rfl
      | true =>
        have a := (hi.2.1 p k (Or.inr hp)).1
        have b := hfp p k hp
        rw [← a, hk, hc.2] at b
        cases b
  · cases e
theorem cp_gts {k : Nat} (ha : cp_al pr dl al) (hs : cp_sf pr fl st) (hi : cp_I pr sl ps ko H) : cp_O pr sl ps ko dl (false :: fl) H (yi_gts pc n al st H nc ns k) := by
  intro y e
  unfold yi_gts at e
  split at e
  · cases e
    exact ⟨ha, cp_sf_f (cp_Vi _) hs, cp_H_r hi⟩
  · cases e
theorem cp_len (ha : cp_al pr dl al) (hs : cp_sf pr fl st) (hi : cp_I pr sl ps ko H) : cp_O pr sl ps ko dl (false :: fl.tail) H (yi_len pc n al st H nc ns []) := by
  intro y e
  unfold yi_len at e
  split at e
  · rename_i p rest
    have key : ∀ z : Int, cp_O pr sl ps ko dl (false :: fl.tail) H (some (.inl (pc + n, al, .inl z :: rest, H, nc, ns))) := fun z => cp_in ha (cp_sf_f (cp_Vi _) (cp_sf_t hs)) (cp_H_r hi)
    cases h1 : Nat.ble 10 p with
    | true => rw [h1] at e; exact cp_bif (key _) y e
    | false =>
      rw [h1] at e
      dsimp only [cond_false] at e
      cases h2 : Nat.beq p 8 with
      | true => rw [h2] at e; cases e
      | false => rw [h2] at e; exact cp_bif (key _) y e
  · cases e
theorem cp_ald {t : Nat} (hko : ∀ p k, sl p k = true ∨ ps p k = true → ko p < 20) (ha : cp_al pr dl al) (hs : cp_sf pr fl st) (hi : cp_I pr sl ps ko H) : cp_O pr sl ps ko dl (false :: fl.tail.tail) H (yi_ald pc n al st H nc ns t []) := by
  intro y e
  unfold yi_ald at e
  split at e
  · rename_i z p rest
    have key : ∀ w : yi_V, cp_V pr w → cp_O pr sl ps ko dl (false :: fl.tail.tail) H (some (.inl (pc + n, al, w :: rest, H, nc, ns))) := fun w hw => cp_in ha (cp_sf_f hw (cp_sf_t (cp_sf_t hs))) (cp_H_r hi)
    cases h1 : Nat.ble 10 p with
    | true =>
      rw [h1] at e
      dsimp only [cond_true] at e
      cases h2 : (((Nat.beq (H.2.2.2.1 p) (20 + t) && Nat.ble t 6) || (Nat.beq t 7 && Nat.ble 24 (H.2.2.2.1 p) && Nat.ble (H.2.2.2.1 p) 26)) && decide (0 ≤ z) && decide (z < H.2.2.2.2.1 p)) with
      | false => rw [h2] at e; cases e
      | true =>
        rw [h2] at e
        refine key _ (fun q hq => ?_) y e
        cases hp : pr q with
        | false => rfl
        | true =>
          exfalso
          have hr : H.2.2.1 p z.toNat = some q := by
            unfold yi_rd at hq
            split at hq
            · cases hq
            · cases hq
            · exact Sum.inr.inj (Sum.inr.inj hq)
          have hsl := hi.1 p _ q hr hp
          have a := (hi.2.1 p _ (Or.inl hsl)).1
          have b := hko p _ (Or.inl hsl)
          rw [Bool.and_eq_true, Bool.and_eq_true, Bool.or_eq_true, Bool.and_eq_true, Bool.and_eq_true, Bool.and_eq_true] at h2
          rcases h2.1.1 with c | c
          · have := Nat.eq_of_beq_eq_true c.1
            omega
          · have := Nat.le_of_ble_eq_true c.1.2
            omega
    | false =>
      rw [h1] at e
      dsimp only [cond_false] at e
      have e2 := e
      cases h2 : (Nat.beq p 8 && Nat.beq t 0 && decide (0 ≤ z) && decide (z < ([] : List Int).length)) with
      | true => rw [h2] at e; exact key _ (cp_Vi _) y e
      | false => rw [h2] at e; exact cp_bif (key _ (cp_Vi _)) y e
  · cases e
theorem cp_ast {t : Nat} (hko : ∀ p k, sl p k = true ∨ ps p k = true → ko p < 20) (hc : (fl.tail.tail.headD false || fl.headD false) = false) (ha : cp_al pr dl al) (hs : cp_sf pr fl st) (hi : cp_I pr sl ps ko H) : cp_O pr sl ps ko dl (fl.tail.tail.tail) H (yi_ast pc n al st H nc ns t) := by
  intro y e
  unfold yi_ast at e
  rw [Bool.or_eq_false_iff] at hc
  split at e
  · rename_i w z p rest
    cases h2 : (Nat.ble 10 p && Nat.beq (H.2.2.2.1 p) (20 + t) && Nat.ble t 3 && decide (0 ≤ z) && decide (z < H.2.2.2.2.1 p) && yi_fit (zi_ft t) w) with
    | false => rw [h2] at e; cases e
    | true =>
      rw [h2] at e
      cases e
      rw [Bool.and_eq_true, Bool.and_eq_true, Bool.and_eq_true, Bool.and_eq_true, Bool.and_eq_true] at h2
      have hk := Nat.eq_of_beq_eq_true h2.1.1.1.1.2
      refine ⟨ha, cp_sf_t (cp_sf_t (cp_sf_t hs)), cp_wrt hi (cp_pV (cp_sf_h (cp_sf_t (cp_sf_t hs)) hc.1)) (cp_sf_h hs hc.2) ?_⟩
      cases hp : ps p z.toNat with
      | false => rfl
      | true =>
        have a := (hi.2.1 p _ (Or.inr hp)).1
        have b := hko p _ (Or.inr hp)
        omega
  · cases e
theorem cp_aas (hko : ∀ p k, sl p k = true ∨ ps p k = true → ko p < 20) (hc : (fl.tail.tail.headD false || fl.headD false) = false) (ha : cp_al pr dl al) (hs : cp_sf pr fl st) (hi : cp_I pr sl ps ko H) : cp_O pr sl ps ko dl (fl.tail.tail.tail) H (yi_aas pc n al st H nc ns) := by
  intro y e
  unfold yi_aas at e
  rw [Bool.or_eq_false_iff] at hc
  split at e
  · rename_i w z p rest
    cases h2 : (Nat.ble 10 p && Nat.ble 24 (H.2.2.2.1 p) && Nat.ble (H.2.2.2.1 p) 26 && decide (0 ≤ z) && decide (z < H.2.2.2.2.1 p) && yi_nz H (H.2.2.2.1 p) w) with
    | false => rw [h2] at e; cases e
    | true =>
      rw [h2] at e
      cases e
      rw [Bool.and_eq_true, Bool.and_eq_true, Bool.and_eq_true, Bool.and_eq_true, Bool.and_eq_true] at h2
      have hk := Nat.le_of_ble_eq_true h2.1.1.1.1.2
      refine ⟨ha, cp_sf_t (cp_sf_t (cp_sf_t hs)), cp_wrt (v := .inr (.inr w)) hi (cp_pV (cp_sf_h (cp_sf_t (cp_sf_t hs)) hc.1)) (cp_sf_h hs hc.2) ?_⟩
      cases hp : ps p z.toNat with
      | false => rfl
      | true =>
        have a := (hi.2.1 p _ (Or.inr hp)).1
        have b := hko p _ (Or.inr hp)
        omega
  · cases e
theorem cp_nw {k m : Nat} (hi : cp_I pr sl ps ko H) : cp_H pr sl ps ko H (yi_nw H k m) := by
  have hn : ∀ p k', (sl p k' = true ∨ ps p k' = true) → p ≠ H.2.2.2.2.2 := fun p k' h => by have := (hi.2.1 p k' h).2; omega
  refine ⟨⟨fun p k' q e hq => ?_, fun p k' h => ⟨(if_neg (hn p k' h)).trans (hi.2.1 p k' h).1, Nat.lt_succ_of_lt (hi.2.1 p k' h).2⟩, fun q hq => Nat.lt_succ_of_lt (hi.2.2 q hq)⟩, fun p k' hp => ?_, fun p k' h => if_neg (hn p k' (Or.inr h))⟩
  · have e : (if p = H.2.2.2.2.2 then none else H.2.2.1 p k') = some q := e
    by_cases c : p = H.2.2.2.2.2
    · rw [if_pos c] at e; cases e
    · rw [if_neg c] at e
      exact hi.1 p k' q e hq
  · have := hi.2.2 p hp
    exact ⟨if_neg (by omega), if_neg (by omega)⟩
theorem cp_nV (hi : cp_I pr sl ps ko H) : cp_V pr (.inr (.inr (some H.2.2.2.2.2))) := by
  intro q e
  have e : some H.2.2.2.2.2 = some q := Sum.inr.inj (Sum.inr.inj e)
  cases e
  cases hp : pr H.2.2.2.2.2 with
  | false => rfl
  | true => have := hi.2.2 _ hp; omega
theorem cp_nwo {ci : Nat} (ha : cp_al pr dl al) (hs : cp_sf pr fl st) (hi : cp_I pr sl ps ko H) : cp_O pr sl ps ko dl (false :: fl) H (yi_nwo pc n al st H nc ns ci) := cp_bif (cp_in ha (cp_sf_f (cp_nV hi) hs) (cp_nw hi))
theorem cp_nwa {t : Nat} (ha : cp_al pr dl al) (hs : cp_sf pr fl st) (hi : cp_I pr sl ps ko H) : cp_O pr sl ps ko dl (false :: fl.tail) H (yi_nwa pc n al st H nc ns t) := by
  intro y e
  unfold yi_nwa at e
  split at e
  · exact cp_bif (cp_in ha (cp_sf_f (cp_nV hi) (cp_sf_t hs)) (cp_nw hi)) y e
  · cases e
theorem cp_mm {z : Nat} (ha : cp_al pr dl al) (hs : cp_sf pr fl st) (hi : cp_I pr sl ps ko H) : cp_O pr sl ps ko dl (false :: fl.tail.tail) H (yi_mm pc n al st H nc ns z) := by
  intro y e
  unfold yi_mm at e
  split at e
  · cases e
    exact ⟨ha, cp_sf_f (cp_Vi _) (cp_sf_t (cp_sf_t hs)), cp_H_r hi⟩
  · cases e
theorem cp_obj (ha : cp_al pr dl al) (hs : cp_sf pr fl st) (hi : cp_I pr sl ps ko H) : cp_O pr sl ps ko dl (fl.tail) H (yi_obj pc n al st H nc ns) := by
  intro y e
  unfold yi_obj at e
  split at e
  · exact cp_bif (cp_in ha (cp_sf_t hs) (cp_H_r hi)) y e
  · cases e
/-- what a call is given -/
def cp_vs (pr : Nat → Bool) (dp : Bool) (vs : List yi_V) : Prop := ∀ j v, vs[j]? = some v → (dp = true ∧ j = 0) ∨ cp_V pr v
def cp_cl (pr : Nat → Bool) (sl ps : Nat → Nat → Bool) (ko : Nat → Nat) (ff dp : Nat → Bool) (call : yi_K) : Prop := ∀ mi vs H r, ff mi = true → cp_vs pr (dp mi) vs → cp_I pr sl ps ko H → call mi vs H = some r → (∀ v, r.1 = some v → cp_V pr v) ∧ cp_H pr sl ps ko H r.2.1
theorem cp_inv {call : yi_K} {ff dp : Nat → Bool} {mi k : Nat} (hc : cp_cl pr sl ps ko ff dp call) (hf : ff mi = true) (h1 : (fl.take (k - 1)).any id = false) (h2 : (fl.getD (k - 1) false && !(dp mi)) = false) (h3 : (fl.drop k).any id = false) (ha : cp_al pr dl al) (hs : cp_sf pr fl st) (hi : cp_I pr sl ps ko H) : cp_O pr sl ps ko dl ([]) H (yi_inv pc n al st H nc ns call mi k) := by
  intro y e
  unfold yi_inv at e
  cases hb : (Nat.ble k st.length && Nat.ble (yi_cats (st.drop k)) 8) with
  | false => rw [hb] at e; cases e
  | true =>
    rw [hb] at e
    dsimp only [cond_true] at e
    rw [Bool.and_eq_true] at hb
    have hk := Nat.le_of_ble_eq_true hb.1
    have hvs : cp_vs pr (dp mi) (st.take k).reverse := by
      intro j v hj
      have hl : (st.take k).length = k := by rw [List.length_take]; omega
      have hjk : j < k := by
        have := (List.getElem?_eq_some_iff.mp hj).1
        rw [List.length_reverse, hl] at this
        exact this
      rw [List.getElem?_reverse (by rw [hl]; exact hjk), hl, List.getElem?_take, if_pos (by omega)] at hj
      by_cases c : dp mi = true ∧ j = 0
      · exact Or.inl c
      · right
        refine cp_sf_get fl st _ v hs hj ?_
        by_cases z : j = 0
        · subst z
          have hd : dp mi = false := by
            cases hd : dp mi with
            | false => rfl
            | true => exact absurd ⟨hd, rfl⟩ c
          rw [hd, Bool.not_false, Bool.and_true] at h2
          exact h2
        · rw [List.getD_eq_getElem?_getD]
          cases hq : fl[k - 1 - j]? with
          | none => rfl
          | some b =>
            have hm : b ∈ fl.take (k - 1) := by
              have : (fl.take (k - 1))[k - 1 - j]? = some b := by rw [List.getElem?_take, if_pos (by omega)]; exact hq
              exact List.mem_of_getElem? this
            rw [List.any_eq_false] at h1
            have := h1 b hm
            cases b with
            | false => rfl
            | true => exact absurd rfl this
    have hd := cp_sf_all _ _ h3 (cp_sf_drop k fl st hs)
    split at e
    · rename_i q hq
      have hr := hc mi _ H q hf hvs hi hq
      split at e
      · rename_i v hv
        cases e
        exact ⟨ha, ⟨hr.1 v hv, hd⟩, hr.2⟩
      · cases e
        exact ⟨ha, hd, hr.2⟩
    · cases e
theorem cp_ret {k : Nat} {ret : Option FieldType} (hc : fl.headD false = false) (ha : cp_al pr dl al) (hs : cp_sf pr fl st) (hi : cp_I pr sl ps ko H) : cp_O pr sl ps ko dl ([]) H (yi_ret k ret st) := by
  intro y e
  unfold yi_ret at e
  split at e
  · rename_i ty v
    have key : cp_O pr sl ps ko dl [] H (some (.inr (some v))) := fun y e => by
      cases e
      intro w ew
      cases ew
      exact cp_sf_h hs hc
    exact cp_bif key y e
  · cases e
theorem cp_rtv {ret : Option FieldType} {f2 : List Bool} : cp_O pr sl ps ko dl f2 H (yi_rtv ret st) := by
  intro y e
  unfold yi_rtv at e
  split at e
  · cases e
    intro w ew
    cases ew
  · cases e
end CP
