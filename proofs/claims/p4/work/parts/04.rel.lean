/-! The relation between abstract and concrete states. -/
theorem zi_F2_cons {α β : Type} {r : α → β → Prop} {a : α} {as : List α} {l : List β} (h : zi_F2 r (a :: as) l) : ∃ b bs, l = b :: bs ∧ r a b ∧ zi_F2 r as bs := by
  cases l with
  | nil => exact h.elim
  | cons b bs => exact ⟨b, bs, rfl, h.1, h.2⟩
theorem zi_F2_nil {α β : Type} {r : α → β → Prop} {l : List β} (h : zi_F2 r ([] : List α) l) : l = [] := by
  cases l with
  | nil => rfl
  | cons b bs => exact h.elim
theorem zi_F2_len {α β : Type} {r : α → β → Prop} : ∀ {as : List α} {bs : List β}, zi_F2 r as bs → as.length = bs.length
  | [], [], _ => rfl
  | _ :: _, _ :: _, h => by simp [zi_F2_len h.2]
  | [], _ :: _, h => h.elim
  | _ :: _, [], h => h.elim
theorem zi_F2_get {α β : Type} {r : α → β → Prop} : ∀ {as : List α} {bs : List β}, zi_F2 r as bs → ∀ {i : Nat} {a : α}, as[i]? = some a → ∃ b, bs[i]? = some b ∧ r a b
  | [], _, _, _, _, h => by simp at h
  | _ :: _, [], h, _, _, _ => h.elim
  | a :: as, b :: bs, h, 0, x, hx => by
    have e : a = x := by simpa using hx
    rw [← e]
    exact ⟨b, rfl, h.1⟩
  | a :: as, b :: bs, h, i + 1, x, hx => by
    obtain ⟨y, hy, hr⟩ := zi_F2_get h.2 (i := i) (a := x) (by simpa using hx)
    exact ⟨y, by simpa using hy, hr⟩
theorem zi_F2_mono {α β : Type} {r r' : α → β → Prop} (hr : ∀ a b, r a b → r' a b) : ∀ {as : List α} {bs : List β}, zi_F2 r as bs → zi_F2 r' as bs
  | [], [], _ => trivial
  | _ :: _, _ :: _, h => ⟨hr _ _ h.1, zi_F2_mono hr h.2⟩
  | [], _ :: _, h => h.elim
  | _ :: _, [], h => h.elim
theorem zi_F2_set {α β : Type} {r : α → β → Prop} {a : α} {b : β} (hab : r a b) : ∀ {as : List α} {bs : List β}, zi_F2 r as bs → ∀ i : Nat, zi_F2 r (as.set i a) (bs.set i b)
  | [], [], _, _ => by simp [zi_F2]
  | _ :: _, _ :: _, h, 0 => ⟨hab, h.2⟩
  | _ :: _, _ :: _, h, i + 1 => ⟨h.1, zi_F2_set hab h.2 i⟩
  | [], _ :: _, h, _ => h.elim
  | _ :: _, [], h, _ => h.elim
theorem zi_F2_app {α β : Type} {r : α → β → Prop} : ∀ {as : List α} {bs : List β}, zi_F2 r as bs → ∀ {cs : List α} {ds : List β}, zi_F2 r cs ds → zi_F2 r (as ++ cs) (bs ++ ds)
  | [], [], _, _, _, h => h
  | _ :: _, _ :: _, h, _, _, h2 => ⟨h.1, zi_F2_app h.2 h2⟩
  | [], _ :: _, h, _, _, _ => h.elim
  | _ :: _, [], h, _, _, _ => h.elim
theorem zi_F2_take {α β : Type} {r : α → β → Prop} : ∀ {as : List α} {bs : List β}, zi_F2 r as bs → ∀ k : Nat, zi_F2 r (as.take k) (bs.take k)
  | [], [], _, k => by simp [zi_F2]
  | _ :: _, _ :: _, _, 0 => by simp [zi_F2]
  | _ :: _, _ :: _, h, k + 1 => ⟨h.1, zi_F2_take h.2 k⟩
  | [], _ :: _, h, _ => h.elim
  | _ :: _, [], h, _ => h.elim
theorem zi_F2_drop {α β : Type} {r : α → β → Prop} : ∀ {as : List α} {bs : List β}, zi_F2 r as bs → ∀ k : Nat, zi_F2 r (as.drop k) (bs.drop k)
  | [], [], _, k => by simp [zi_F2]
  | _ :: _, _ :: _, h, 0 => h
  | _ :: _, _ :: _, h, k + 1 => zi_F2_drop h.2 k
  | [], _ :: _, h, _ => h.elim
  | _ :: _, [], h, _ => h.elim
theorem zi_F2_rev {α β : Type} {r : α → β → Prop} : ∀ {as : List α} {bs : List β}, zi_F2 r as bs → zi_F2 r as.reverse bs.reverse
  | [], [], _ => trivial
  | a :: as, b :: bs, h => by
    rw [List.reverse_cons, List.reverse_cons]
    exact zi_F2_app (zi_F2_rev h.2) ⟨h.1, trivial⟩
  | [], _ :: _, h => h.elim
  | _ :: _, [], h => h.elim
/-- the address of an abstract place: 4 Strings, their 4 byte rows, the script, none, the cells that were made -/
def zi_ad (adK adV : Nat → Nat) (b : Nat) (ws : va_W) (i : Nat) : Option Nat := if i < 4 then some (adK i) else if i < 8 then some (adV (i - 4)) else if i = 8 then some b else if i = 9 then none else (ws[i - 10]?).map (fun q => q.1)
def zi_vr (ad : Nat → Option Nat) (v : zi_V) (w : Value) : Prop := match v with
  | .inl (.int x) => w = .int x
  | .inl (.long x) => w = .long x
  | .inl .null => w = .null
  | .inl (.ref i) => ∃ a, ad i = some a ∧ w = .ref a
  | .inl (.retAddr _) => w = .null ∨ ∃ a, w = .ref a
  | .inl (.float _) => False
  | .inl (.double _) => False
  | .inr q => ∃ x, w = .int x ∧ q.1 ≤ x ∧ x ≤ q.2
def zi_ar (ad : Nat → Option Nat) (dA : Nat → ClassId) (t n : Nat) (d : zi_V) (us : List (Nat × zi_V)) (e : va_E) : Prop := match zi_tk t with
  | 0 => ∃ f : Nat → Int32, e = .inl (dA t, n, .inl f) ∧ ∀ j, j < n → zi_vr ad (zi_look d us j) (.int (f j))
  | 1 => ∃ f : Nat → Int64, e = .inl (dA t, n, .inr (.inl f)) ∧ ∀ j, j < n → zi_vr ad (zi_look d us j) (.long (f j))
  | _ => ∃ f : Nat → Option Nat, e = .inl (dA t, n, .inr (.inr (.inr (.inr f)))) ∧ ∀ j, j < n → zi_vr ad (zi_look d us j) (va_rf (f j))
def zi_cr (ad : Nat → Option Nat) (dA : Nat → ClassId) (c : zi_C) (q : Nat × va_E) : Prop := match c with
  | .inl (ci, fs) => ∃ vs, q.2 = .inr (ci, vs) ∧ zi_F2 (zi_vr ad) fs vs
  | .inr (t, n, d, us) => zi_ar ad dA t n d us q.2
def zi_mo (ad ad' : Nat → Option Nat) : Prop := ∀ i a, ad i = some a → ad' i = some a
theorem zi_vr_mo {ad ad' : Nat → Option Nat} (h : zi_mo ad ad') {v : zi_V} {w : Value} (hv : zi_vr ad v w) : zi_vr ad' v w := by
  unfold zi_vr at hv ⊢
  split at hv <;> first | exact hv | (obtain ⟨a, h1, h2⟩ := hv; exact ⟨a, h _ _ h1, h2⟩)
theorem zi_cr_mo {ad ad' : Nat → Option Nat} (h : zi_mo ad ad') {dA : Nat → ClassId} {c : zi_C} {q : Nat × va_E} (hc : zi_cr ad dA c q) : zi_cr ad' dA c q := by
  unfold zi_cr at hc ⊢
  split at hc
  · obtain ⟨vs, h1, h2⟩ := hc
    exact ⟨vs, h1, zi_F2_mono (fun _ _ => zi_vr_mo h) h2⟩
  · unfold zi_ar at hc ⊢
    split at hc <;> (obtain ⟨f, h1, h2⟩ := hc; exact ⟨f, h1, fun j hj => zi_vr_mo h (h2 j hj)⟩)
theorem zi_mo_refl {ad : Nat → Option Nat} : zi_mo ad ad := fun _ _ h => h
def zi_ex (ws ws' : va_W) : Prop := ∀ (i q : Nat) (e : va_E), ws[i]? = some (q, e) → ∃ e', ws'[i]? = some (q, e')
theorem zi_ex_refl (ws : va_W) : zi_ex ws ws := fun _ _ e h => ⟨e, h⟩
theorem zi_ex_trans {a b c : va_W} (h1 : zi_ex a b) (h2 : zi_ex b c) : zi_ex a c := fun i q e h => by
  obtain ⟨e', h'⟩ := h1 i q e h
  exact h2 i q e' h'
theorem zi_ex_mo {adK adV : Nat → Nat} {b : Nat} {ws ws' : va_W} (h : zi_ex ws ws') : zi_mo (zi_ad adK adV b ws) (zi_ad adK adV b ws') := by
  intro i a hi
  unfold zi_ad at hi ⊢
  by_cases h1 : i < 4
  · rw [if_pos h1] at hi ⊢; exact hi
  · by_cases h2 : i < 8
    · rw [if_neg h1, if_pos h2] at hi ⊢; exact hi
    · by_cases h3 : i = 8
      · rw [if_neg h1, if_neg h2, if_pos h3] at hi ⊢; exact hi
      · by_cases h4 : i = 9
        · rw [if_neg h1, if_neg h2, if_neg h3, if_pos h4] at hi; cases hi
        · rw [if_neg h1, if_neg h2, if_neg h3, if_neg h4] at hi ⊢
          cases hw : ws[i - 10]? with
          | none => rw [hw] at hi; cases hi
          | some q =>
            rw [hw] at hi
            have e1 : q.1 = a := Option.some.inj hi
            obtain ⟨e', h'⟩ := h (i - 10) q.1 q.2 hw
            rw [h', e1.symm]; rfl
theorem zi_ex_set {ws : va_W} {k a : Nat} {e e' : va_E} (h : ws[k]? = some (a, e)) : zi_ex ws (ws.set k (a, e')) := by
  intro i q x hx
  by_cases hik : i = k
  · subst hik
    rw [h] at hx
    cases hx
    have hl : i < ws.length := (List.getElem?_eq_some_iff.mp h).1
    exact ⟨e', by simp [hl]⟩
  · exact ⟨x, by rw [List.getElem?_set_ne (fun z => hik z.symm)]; exact hx⟩
theorem zi_ex_app {ws l : va_W} : zi_ex ws (ws ++ l) := by
  intro i q x hx
  have hl : i < ws.length := (List.getElem?_eq_some_iff.mp hx).1
  exact ⟨x, by rw [List.getElem?_append_left hl]; exact hx⟩
theorem zi_ad_own {adK adV : Nat → Nat} {b : Nat} {ws : va_W} {r a : Nat} (hr : 10 ≤ r) (h : zi_ad adK adV b ws r = some a) : ∃ e, ws[r - 10]? = some (a, e) := by
  unfold zi_ad at h
  rw [if_neg (by omega), if_neg (by omega), if_neg (by omega), if_neg (by omega)] at h
  cases hw : ws[r - 10]? with
  | none => rw [hw] at h; cases h
  | some q => rw [hw] at h; exact ⟨q.2, by rw [← Option.some.inj h]⟩
theorem zi_ad_str {adK adV : Nat → Nat} {b : Nat} {ws : va_W} {r a : Nat} (hr : r < 4) (h : zi_ad adK adV b ws r = some a) : a = adK r := by
  unfold zi_ad at h
  rw [if_pos hr] at h
  exact (Option.some.inj h).symm
theorem zi_ad_byt {adK adV : Nat → Nat} {b : Nat} {ws : va_W} {r a : Nat} (h4 : 4 ≤ r) (hr : r < 8) (h : zi_ad adK adV b ws r = some a) : a = adV (r - 4) := by
  unfold zi_ad at h
  rw [if_neg (by omega), if_pos hr] at h
  exact (Option.some.inj h).symm
theorem zi_ad_scr {adK adV : Nat → Nat} {b : Nat} {ws : va_W} {a : Nat} (h : zi_ad adK adV b ws 8 = some a) : a = b := by
  unfold zi_ad at h
  exact (Option.some.inj h).symm
theorem zi_vr_cat {ad : Nat → Option Nat} {v : zi_V} {w : Value} (h : zi_vr ad v w) : w.category = zi_cat v := by
  unfold zi_vr at h
  split at h
  · subst h; rfl
  · subst h; rfl
  · subst h; rfl
  · obtain ⟨a, -, rfl⟩ := h; rfl
  · rcases h with rfl | ⟨a, rfl⟩ <;> rfl
  · exact h.elim
  · exact h.elim
  · obtain ⟨x, rfl, -, -⟩ := h; rfl
theorem zi_vr_int {ad : Nat → Option Nat} {v : zi_V} {w : Value} (h : zi_vr ad v w) (hk : zi_kd v = 0) : ∃ x, w = .int x := by
  unfold zi_vr at h
  split at h
  · exact ⟨_, h⟩
  · cases hk
  · cases hk
  · cases hk
  · cases hk
  · exact h.elim
  · exact h.elim
  · obtain ⟨x, e, -, -⟩ := h; exact ⟨x, e⟩
theorem zi_vr_long {ad : Nat → Option Nat} {v : zi_V} {w : Value} (h : zi_vr ad v w) (hk : zi_kd v = 1) : ∃ x, w = .long x := by
  unfold zi_vr at h
  split at h
  · cases hk
  · exact ⟨_, h⟩
  · cases hk
  · cases hk
  · cases hk
  · exact h.elim
  · exact h.elim
  · cases hk
theorem zi_vr_ref {ad : Nat → Option Nat} {v : zi_V} {w : Value} (h : zi_vr ad v w) (hk : 2 ≤ zi_kd v) : w = .null ∨ ∃ a, w = .ref a := by
  unfold zi_vr at h
  split at h
  · exact absurd hk (by simp [zi_kd])
  · exact absurd hk (by simp [zi_kd])
  · exact Or.inl h
  · obtain ⟨a, -, e⟩ := h; exact Or.inr ⟨a, e⟩
  · exact h
  · exact h.elim
  · exact h.elim
  · exact absurd hk (by simp [zi_kd])
theorem zi_vr_iv {ad : Nat → Option Nat} {v : zi_V} {w : Value} (h : zi_vr ad v w) {q : Int32 × Int32} (hq : zi_iv v = some q) : ∃ x, w = .int x ∧ q.1 ≤ x ∧ x ≤ q.2 := by
  unfold zi_vr at h
  split at h
  · cases hq; exact ⟨_, h, Int32.le_refl _, Int32.le_refl _⟩
  · cases hq
  · cases hq
  · cases hq
  · cases hq
  · exact h.elim
  · exact h.elim
  · cases hq; exact h
/-- the locals -/
def zi_lr (ad : Nat → Option Nat) (p : Nat × zi_V) (q : Nat × Value) : Prop := p.1 = q.1 ∧ zi_vr ad p.2 q.2
theorem zi_loc_get {ad : Nat → Option Nat} {i : Nat} {v : zi_V} : ∀ {al : List (Nat × zi_V)} {lv : List (Nat × Value)}, zi_F2 (zi_lr ad) al lv → zi_loc al i = some v → ∃ (k : Nat) (w : Value), lv[k]? = some (i, w) ∧ zi_vr ad v w
  | [], _, _, h => by cases h
  | _ :: _, [], h, _ => h.elim
  | p :: al, q :: lv, h, hv => by
    have hv : (bif Nat.beq p.1 i then some p.2 else zi_loc al i) = some v := hv
    cases hb : Nat.beq p.1 i with
    | true =>
      rw [hb] at hv
      have e1 : p.2 = v := Option.some.inj hv
      have e2 : p.1 = i := Nat.eq_of_beq_eq_true hb
      exact ⟨0, q.2, by rw [← e2, h.1.1]; rfl, by rw [← e1]; exact h.1.2⟩
    | false =>
      rw [hb] at hv
      obtain ⟨k, w, h1, h2⟩ := zi_loc_get h.2 hv
      exact ⟨k + 1, w, by simpa using h1, h2⟩
theorem zi_beq (a b : Nat) : Nat.beq a b = (a == b) := by
  cases h : Nat.beq a b with
  | true => rw [Nat.eq_of_beq_eq_true h]; simp
  | false =>
    have := Nat.ne_of_beq_eq_false h
    simp [this]
theorem zi_del1_ok {ad : Nat → Option Nat} (i : Nat) : ∀ {al : List (Nat × zi_V)} {lv : List (Nat × Value)}, zi_F2 (zi_lr ad) al lv → zi_F2 (zi_lr ad) (zi_del1 i al) (lv.filter (fun q => !(q.1 == i) && !(q.1 + 1 == i && q.2.category == 2)))
  | [], [], _ => trivial
  | [], _ :: _, h => h.elim
  | _ :: _, [], h => h.elim
  | p :: al, q :: lv, h => by
    have ih := zi_del1_ok i h.2
    have e1 : zi_del1 i (p :: al) = bif (!(Nat.beq p.1 i) && !(Nat.beq (p.1 + 1) i && Nat.beq (zi_cat p.2) 2)) then p :: zi_del1 i al else zi_del1 i al := rfl
    have e2 : (!(Nat.beq p.1 i) && !(Nat.beq (p.1 + 1) i && Nat.beq (zi_cat p.2) 2)) = (!(q.1 == i) && !(q.1 + 1 == i && q.2.category == 2)) := by
      rw [zi_beq, zi_beq, zi_beq, h.1.1, zi_vr_cat h.1.2]
    rw [e1, e2, List.filter_cons]
    cases (!(q.1 == i) && !(q.1 + 1 == i && q.2.category == 2)) with
    | true => exact ⟨h.1, ih⟩
    | false => exact ih
theorem zi_del2_ok {ad : Nat → Option Nat} (i : Nat) : ∀ {al : List (Nat × zi_V)} {lv : List (Nat × Value)}, zi_F2 (zi_lr ad) al lv → zi_F2 (zi_lr ad) (zi_del2 i al) (lv.filter (fun q => !(q.1 == i) && (!(q.1 == i + 1) && !(q.1 + 1 == i && q.2.category == 2))))
  | [], [], _ => trivial
  | [], _ :: _, h => h.elim
  | _ :: _, [], h => h.elim
  | p :: al, q :: lv, h => by
    have ih := zi_del2_ok i h.2
    have e1 : zi_del2 i (p :: al) = bif (!(Nat.beq p.1 i) && (!(Nat.beq p.1 (i + 1)) && !(Nat.beq (p.1 + 1) i && Nat.beq (zi_cat p.2) 2))) then p :: zi_del2 i al else zi_del2 i al := rfl
    have e2 : (!(Nat.beq p.1 i) && (!(Nat.beq p.1 (i + 1)) && !(Nat.beq (p.1 + 1) i && Nat.beq (zi_cat p.2) 2))) = (!(q.1 == i) && (!(q.1 == i + 1) && !(q.1 + 1 == i && q.2.category == 2))) := by
      rw [zi_beq, zi_beq, zi_beq, zi_beq, h.1.1, zi_vr_cat h.1.2]
    rw [e1, e2, List.filter_cons]
    cases (!(q.1 == i) && (!(q.1 == i + 1) && !(q.1 + 1 == i && q.2.category == 2))) with
    | true => exact ⟨h.1, ih⟩
    | false => exact ih
theorem zi_ent_ok {ad : Nat → Option Nat} : ∀ {vs : List zi_V} {ws : List Value}, zi_F2 (zi_vr ad) vs ws → ∀ i : Nat, zi_F2 (zi_lr ad) (zi_ent i vs) (lv_args i ws)
  | [], [], _, _ => trivial
  | [], _ :: _, h, _ => h.elim
  | _ :: _, [], h, _ => h.elim
  | v :: vs, w :: ws, h, i => by
    have e1 : zi_ent i (v :: vs) = (i, v) :: zi_ent (i + zi_cat v) vs := rfl
    have e2 : lv_args i (w :: ws) = (i, w) :: lv_args (i + zi_cat v) ws := by
      have hc := zi_vr_cat h.1
      rcases lv_cat w with h1 | h1
      · rw [lv_args, if_neg (by omega), ← hc, h1]
      · rw [lv_args, if_pos h1, ← hc, h1]
    rw [e1, e2]
    exact ⟨⟨rfl, h.1⟩, zi_ent_ok h.2 _⟩
theorem zi_cats_ok {ad : Nat → Option Nat} : ∀ {vs : List zi_V} {ws : List Value}, zi_F2 (zi_vr ad) vs ws → (ws.map fun v => v.category).sum = zi_cats vs
  | [], [], _ => rfl
  | [], _ :: _, h => h.elim
  | _ :: _, [], h => h.elim
  | v :: vs, w :: ws, h => by
    have e1 : zi_cats (v :: vs) = zi_cat v + zi_cats vs := rfl
    rw [e1, List.map_cons, List.sum_cons, zi_cats_ok h.2, zi_vr_cat h.1]
theorem zi_ilt (a b : Int32) : a < b ↔ a.toInt < b.toInt := Int32.lt_iff_toInt_lt
theorem zi_ile (a b : Int32) : a ≤ b ↔ a.toInt ≤ b.toInt := Int32.le_iff_toInt_le
theorem zi_ieq (a b : Int32) : a = b ↔ a.toInt = b.toInt := Int32.toInt_inj.symm
theorem zi_test_eq {x y : Int32} {a b : Int32 × Int32} (ha : a.1 ≤ x ∧ x ≤ a.2) (hb : b.1 ≤ y ∧ y ≤ b.2) {r : Bool} (h : zi_eq a b = some r) : (x = y) ↔ r = true := by
  have hx := (zi_ile _ _).mp ha.1
  have hx' := (zi_ile _ _).mp ha.2
  have hy := (zi_ile _ _).mp hb.1
  have hy' := (zi_ile _ _).mp hb.2
  rw [zi_ieq]
  unfold zi_eq at h
  cases h1 : (decide (a.2 < b.1) || decide (b.2 < a.1)) with
  | true =>
    rw [h1] at h
    cases h
    simp only [Bool.or_eq_true, decide_eq_true_eq, zi_ilt] at h1
    constructor
    · intro e; omega
    · intro e; cases e
  | false =>
    rw [h1] at h
    cases h2 : (decide (a.1 = a.2) && decide (b.1 = b.2) && decide (a.1 = b.1)) with
    | true =>
      rw [h2] at h
      cases h
      simp only [Bool.and_eq_true, decide_eq_true_eq, zi_ieq] at h2
      constructor
      · intro _; rfl
      · intro _; omega
    | false => rw [h2] at h; cases h
theorem zi_test_lt {x y : Int32} {a b : Int32 × Int32} (ha : a.1 ≤ x ∧ x ≤ a.2) (hb : b.1 ≤ y ∧ y ≤ b.2) {r : Bool} (h : zi_lt a b = some r) : (x < y) ↔ r = true := by
  have hx := (zi_ile _ _).mp ha.1
  have hx' := (zi_ile _ _).mp ha.2
  have hy := (zi_ile _ _).mp hb.1
  have hy' := (zi_ile _ _).mp hb.2
  rw [zi_ilt]
  unfold zi_lt at h
  cases h1 : decide (a.2 < b.1) with
  | true =>
    rw [h1] at h
    cases h
    simp only [decide_eq_true_eq, zi_ilt] at h1
    constructor
    · intro _; rfl
    · intro _; omega
  | false =>
    rw [h1] at h
    cases h2 : decide (b.2 ≤ a.1) with
    | true =>
      rw [h2] at h
      cases h
      simp only [decide_eq_true_eq, zi_ile] at h2
      constructor
      · intro e; omega
      · intro e; cases e
    | false => rw [h2] at h; cases h
theorem zi_test_le {x y : Int32} {a b : Int32 × Int32} (ha : a.1 ≤ x ∧ x ≤ a.2) (hb : b.1 ≤ y ∧ y ≤ b.2) {r : Bool} (h : zi_le a b = some r) : (x ≤ y) ↔ r = true := by
  have hx := (zi_ile _ _).mp ha.1
  have hx' := (zi_ile _ _).mp ha.2
  have hy := (zi_ile _ _).mp hb.1
  have hy' := (zi_ile _ _).mp hb.2
  rw [zi_ile]
  unfold zi_le at h
  cases h1 : decide (a.2 ≤ b.1) with
  | true =>
    rw [h1] at h
    cases h
    simp only [decide_eq_true_eq, zi_ile] at h1
    constructor
    · intro _; rfl
    · intro _; omega
  | false =>
    rw [h1] at h
    cases h2 : decide (b.2 < a.1) with
    | true =>
      rw [h2] at h
      cases h
      simp only [decide_eq_true_eq, zi_ilt] at h2
      constructor
      · intro e; omega
      · intro e; cases e
    | false => rw [h2] at h; cases h
