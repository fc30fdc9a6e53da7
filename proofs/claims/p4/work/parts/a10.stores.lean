section ZH
variable {p : Program} {l : Launch} {e : Env} {R : Room} {s : State} {m : MethodId} {args : Array Value} {below : List Frame} {meth : Method} {c : Code} {B0 : Nat} {D : va_G} {dA : Nat → ClassId} {adK adV : Nat → Nat} {b : Nat} {M : zi_M} {d : Nat} {sl : List zi_V}
variable {pc : Nat} {al : List (Nat × zi_V)} {st : List zi_V} {A : List zi_C} {nc ns : Nat} {g : zi_F}
theorem zi_look_cons (dv v : zi_V) (us : List (Nat × zi_V)) (i j : Nat) : zi_look dv ((i, v) :: us) j = bif Nat.beq i j then v else zi_look dv us j := rfl
theorem zi_look_up {P : Nat → zi_V → Prop} {dv v : zi_V} {us : List (Nat × zi_V)} {i j : Nat} (h1 : j = i → P j v) (h2 : j ≠ i → P j (zi_look dv us j)) : P j (zi_look dv ((i, v) :: us) j) := by
  rw [zi_look_cons]
  cases hb : Nat.beq i j with
  | true => exact h1 (Nat.eq_of_beq_eq_true hb).symm
  | false => exact h2 (fun z => Nat.ne_of_beq_eq_false hb z.symm)
theorem zi_sok_boolean {v : zi_V} (h : zi_sok 2 v = true) : ∃ y, v = .inl (.int y) ∧ narrow .boolean (.int y) = .int y := by
  cases v with
  | inr q => exact Bool.noConfusion (show false = true from h)
  | inl w => cases w with
    | int x => exact ⟨x, rfl, of_decide_eq_true h⟩
    | _ => exact Bool.noConfusion (show false = true from h)
theorem zi_sok_char {v : zi_V} (h : zi_sok 3 v = true) : ∃ y, v = .inl (.int y) ∧ narrow .char (.int y) = .int y := by
  cases v with
  | inr q => exact Bool.noConfusion (show false = true from h)
  | inl w => cases w with
    | int x => exact ⟨x, rfl, of_decide_eq_true h⟩
    | _ => exact Bool.noConfusion (show false = true from h)
theorem zi_nar {ty : FieldType} {x : Int32} (h : narrow ty (.int x) = .int x) : vp_nar ty x = x := by
  unfold vp_nar
  rw [h]
theorem zi_go_iast (C : zi_Cx p R s m args meth c B0 D dA adK adV b M d sl) (hd : decode M.2.1 pc = .ok (.iastore, 1)) (h : zi_ast 0 pc 1 al st A nc ns = some (.inl g)) : zi_Go p l e R s m args below meth c B0 D dA adK adV b M.2.2.1 (pc, al, st, A, nc, ns) g := by
  obtain ⟨⟨hx, hb, hml, hret, hown, hts, hlk, hnm⟩, hX, hR, hscr⟩ := C
  unfold zi_ast at h
  split at h
  · rename_i v x r rest
    cases hb1 : Nat.ble 10 r with
    | false => rw [hb1] at h; cases h
    | true =>
      rw [hb1] at h
      have hr := Nat.le_of_ble_eq_true hb1
      simp only [cond_true] at h
      split at h
      · rename_i q hA
        cases hb2 : (Nat.beq q.1 0 && zi_in x q.2.1 && zi_sok 0 v) with
        | false => rw [hb2] at h; cases h
        | true =>
          rw [hb2] at h
          rw [Bool.and_eq_true, Bool.and_eq_true] at hb2
          have e1 := Nat.eq_of_beq_eq_true hb2.1.1
          have hin := zi_in_ok hb2.1.2
          have hsok := hb2.2
          cases h
          intro Q ws H locs ls sc hS _ _ kk
          obtain ⟨h1, h2, h3, h4, ⟨lv, h5, h7⟩, h6⟩ := hS
          obtain ⟨w, sc, rfl, hw, k4⟩ := zi_F2_cons h6
          obtain ⟨w0, sc, rfl, hw0, k5⟩ := zi_F2_cons k4
          have hw0 : w0 = .int x := hw0
          subst hw0
          obtain ⟨w1, sc, rfl, ⟨a, had, rfl⟩, k6⟩ := zi_F2_cons k5
          obtain ⟨e0, he0, har⟩ := zi_cell_arr h4 hr had hA
          rw [e1] at har
          obtain ⟨f, rfl, hf⟩ := har
          obtain ⟨y, rfl⟩ := zi_vr_int hw (Nat.eq_of_beq_eq_true hsok)
          refine va_iast hx hb hX.1 h1 h2 h3 (r - 10) 0 he0 (zi_tys_at dA (by decide)) hin hd (fun H1 locs1 p1 p2 p3 => ?_)
          refine kk _ H1 locs1 ls sc (zi_ex_set he0) (zi_st_set he0 h4 h5 h7 k6 (?_ : zi_ar _ _ q.1 _ _ _ _) p1 p2 p3)
          rw [e1]
          refine ⟨_, rfl, fun j hj => ?_⟩
          refine zi_look_up (P := fun j z => zi_vr (zi_ad adK adV b ws) z (Value.int (upd f x.toNatClampNeg y j))) (fun ej => ?_) (fun ej => ?_)
          · have e2 : upd f x.toNatClampNeg y j = y := by unfold upd; rw [if_pos ej]
            try dsimp only
            rw [e2]
            first | exact hw | rfl
          · have e2 : upd f x.toNatClampNeg y j = f j := by unfold upd; rw [if_neg ej]
            try dsimp only
            rw [e2]
            exact hf j hj
      · cases h
  · cases h
theorem zi_go_last (C : zi_Cx p R s m args meth c B0 D dA adK adV b M d sl) (hd : decode M.2.1 pc = .ok (.lastore, 1)) (h : zi_ast 1 pc 1 al st A nc ns = some (.inl g)) : zi_Go p l e R s m args below meth c B0 D dA adK adV b M.2.2.1 (pc, al, st, A, nc, ns) g := by
  obtain ⟨⟨hx, hb, hml, hret, hown, hts, hlk, hnm⟩, hX, hR, hscr⟩ := C
  unfold zi_ast at h
  split at h
  · rename_i v x r rest
    cases hb1 : Nat.ble 10 r with
    | false => rw [hb1] at h; cases h
    | true =>
      rw [hb1] at h
      have hr := Nat.le_of_ble_eq_true hb1
      simp only [cond_true] at h
      split at h
      · rename_i q hA
        cases hb2 : (Nat.beq q.1 1 && zi_in x q.2.1 && zi_sok 1 v) with
        | false => rw [hb2] at h; cases h
        | true =>
          rw [hb2] at h
          rw [Bool.and_eq_true, Bool.and_eq_true] at hb2
          have e1 := Nat.eq_of_beq_eq_true hb2.1.1
          have hin := zi_in_ok hb2.1.2
          have hsok := hb2.2
          cases h
          intro Q ws H locs ls sc hS _ _ kk
          obtain ⟨h1, h2, h3, h4, ⟨lv, h5, h7⟩, h6⟩ := hS
          obtain ⟨w, sc, rfl, hw, k4⟩ := zi_F2_cons h6
          obtain ⟨w0, sc, rfl, hw0, k5⟩ := zi_F2_cons k4
          have hw0 : w0 = .int x := hw0
          subst hw0
          obtain ⟨w1, sc, rfl, ⟨a, had, rfl⟩, k6⟩ := zi_F2_cons k5
          obtain ⟨e0, he0, har⟩ := zi_cell_arr h4 hr had hA
          rw [e1] at har
          obtain ⟨f, rfl, hf⟩ := har
          obtain ⟨y, rfl⟩ := zi_vr_long hw (Nat.eq_of_beq_eq_true hsok)
          refine va_last hx hb hX.1 h1 h2 h3 (r - 10) 1 he0 (zi_tys_at dA (by decide)) hin hd (fun H1 locs1 p1 p2 p3 => ?_)
          refine kk _ H1 locs1 ls sc (zi_ex_set he0) (zi_st_set he0 h4 h5 h7 k6 (?_ : zi_ar _ _ q.1 _ _ _ _) p1 p2 p3)
          rw [e1]
          refine ⟨_, rfl, fun j hj => ?_⟩
          refine zi_look_up (P := fun j z => zi_vr (zi_ad adK adV b ws) z (Value.long (vp_updL f x.toNatClampNeg y j))) (fun ej => ?_) (fun ej => ?_)
          · have e2 : vp_updL f x.toNatClampNeg y j = y := by unfold vp_updL; rw [if_pos ej]
            try dsimp only
            rw [e2]
            first | exact hw | rfl
          · have e2 : vp_updL f x.toNatClampNeg y j = f j := by unfold vp_updL; rw [if_neg ej]
            try dsimp only
            rw [e2]
            exact hf j hj
      · cases h
  · cases h
theorem zi_go_zast (C : zi_Cx p R s m args meth c B0 D dA adK adV b M d sl) (hd : decode M.2.1 pc = .ok (.bastore, 1)) (h : zi_ast 2 pc 1 al st A nc ns = some (.inl g)) : zi_Go p l e R s m args below meth c B0 D dA adK adV b M.2.2.1 (pc, al, st, A, nc, ns) g := by
  obtain ⟨⟨hx, hb, hml, hret, hown, hts, hlk, hnm⟩, hX, hR, hscr⟩ := C
  unfold zi_ast at h
  split at h
  · rename_i v x r rest
    cases hb1 : Nat.ble 10 r with
    | false => rw [hb1] at h; cases h
    | true =>
      rw [hb1] at h
      have hr := Nat.le_of_ble_eq_true hb1
      simp only [cond_true] at h
      split at h
      · rename_i q hA
        cases hb2 : (Nat.beq q.1 2 && zi_in x q.2.1 && zi_sok 2 v) with
        | false => rw [hb2] at h; cases h
        | true =>
          rw [hb2] at h
          rw [Bool.and_eq_true, Bool.and_eq_true] at hb2
          have e1 := Nat.eq_of_beq_eq_true hb2.1.1
          have hin := zi_in_ok hb2.1.2
          have hsok := hb2.2
          cases h
          intro Q ws H locs ls sc hS _ _ kk
          obtain ⟨h1, h2, h3, h4, ⟨lv, h5, h7⟩, h6⟩ := hS
          obtain ⟨w, sc, rfl, hw, k4⟩ := zi_F2_cons h6
          obtain ⟨w0, sc, rfl, hw0, k5⟩ := zi_F2_cons k4
          have hw0 : w0 = .int x := hw0
          subst hw0
          obtain ⟨w1, sc, rfl, ⟨a, had, rfl⟩, k6⟩ := zi_F2_cons k5
          obtain ⟨e0, he0, har⟩ := zi_cell_arr h4 hr had hA
          rw [e1] at har
          obtain ⟨f, rfl, hf⟩ := har
          obtain ⟨y, ev, hny⟩ := zi_sok_boolean hsok
          subst ev
          have hw : w = .int y := hw
          subst hw
          refine va_zast hx hb hX.1 h1 h2 h3 (r - 10) 2 he0 (zi_tys_at dA (by decide)) hin hd (fun H1 locs1 p1 p2 p3 => ?_)
          rw [zi_nar hny] at p1 p2
          refine kk _ H1 locs1 ls sc (zi_ex_set he0) (zi_st_set he0 h4 h5 h7 k6 (?_ : zi_ar _ _ q.1 _ _ _ _) p1 p2 p3)
          rw [e1]
          refine ⟨_, rfl, fun j hj => ?_⟩
          refine zi_look_up (P := fun j z => zi_vr (zi_ad adK adV b ws) z (Value.int (upd f x.toNatClampNeg y j))) (fun ej => ?_) (fun ej => ?_)
          · have e2 : upd f x.toNatClampNeg y j = y := by unfold upd; rw [if_pos ej]
            try dsimp only
            rw [e2]
            first | exact hw | rfl
          · have e2 : upd f x.toNatClampNeg y j = f j := by unfold upd; rw [if_neg ej]
            try dsimp only
            rw [e2]
            exact hf j hj
      · cases h
  · cases h
theorem zi_go_cast (C : zi_Cx p R s m args meth c B0 D dA adK adV b M d sl) (hd : decode M.2.1 pc = .ok (.castore, 1)) (h : zi_ast 3 pc 1 al st A nc ns = some (.inl g)) : zi_Go p l e R s m args below meth c B0 D dA adK adV b M.2.2.1 (pc, al, st, A, nc, ns) g := by
  obtain ⟨⟨hx, hb, hml, hret, hown, hts, hlk, hnm⟩, hX, hR, hscr⟩ := C
  unfold zi_ast at h
  split at h
  · rename_i v x r rest
    cases hb1 : Nat.ble 10 r with
    | false => rw [hb1] at h; cases h
    | true =>
      rw [hb1] at h
      have hr := Nat.le_of_ble_eq_true hb1
      simp only [cond_true] at h
      split at h
      · rename_i q hA
        cases hb2 : (Nat.beq q.1 3 && zi_in x q.2.1 && zi_sok 3 v) with
        | false => rw [hb2] at h; cases h
        | true =>
          rw [hb2] at h
          rw [Bool.and_eq_true, Bool.and_eq_true] at hb2
          have e1 := Nat.eq_of_beq_eq_true hb2.1.1
          have hin := zi_in_ok hb2.1.2
          have hsok := hb2.2
          cases h
          intro Q ws H locs ls sc hS _ _ kk
          obtain ⟨h1, h2, h3, h4, ⟨lv, h5, h7⟩, h6⟩ := hS
          obtain ⟨w, sc, rfl, hw, k4⟩ := zi_F2_cons h6
          obtain ⟨w0, sc, rfl, hw0, k5⟩ := zi_F2_cons k4
          have hw0 : w0 = .int x := hw0
          subst hw0
          obtain ⟨w1, sc, rfl, ⟨a, had, rfl⟩, k6⟩ := zi_F2_cons k5
          obtain ⟨e0, he0, har⟩ := zi_cell_arr h4 hr had hA
          rw [e1] at har
          obtain ⟨f, rfl, hf⟩ := har
          obtain ⟨y, ev, hny⟩ := zi_sok_char hsok
          subst ev
          have hw : w = .int y := hw
          subst hw
          refine va_cast hx hb hX.1 h1 h2 h3 (r - 10) 3 he0 (zi_tys_at dA (by decide)) hin hd (fun H1 locs1 p1 p2 p3 => ?_)
          rw [zi_nar hny] at p1 p2
          refine kk _ H1 locs1 ls sc (zi_ex_set he0) (zi_st_set he0 h4 h5 h7 k6 (?_ : zi_ar _ _ q.1 _ _ _ _) p1 p2 p3)
          rw [e1]
          refine ⟨_, rfl, fun j hj => ?_⟩
          refine zi_look_up (P := fun j z => zi_vr (zi_ad adK adV b ws) z (Value.int (upd f x.toNatClampNeg y j))) (fun ej => ?_) (fun ej => ?_)
          · have e2 : upd f x.toNatClampNeg y j = y := by unfold upd; rw [if_pos ej]
            try dsimp only
            rw [e2]
            first | exact hw | rfl
          · have e2 : upd f x.toNatClampNeg y j = f j := by unfold upd; rw [if_neg ej]
            try dsimp only
            rw [e2]
            exact hf j hj
      · cases h
  · cases h
theorem zi_dfv_ok (ty : FieldType) (h1 : ty ≠ .float) (h2 : ty ≠ .double) (ad : Nat → Option Nat) : zi_vr ad (zi_dfv ty) (defaultValue ty) := by
  cases ty <;> first | rfl | exact absurd rfl h1 | exact absurd rfl h2
theorem zi_new_ok (ad : Nat → Option Nat) : ∀ (l : List ((String × String × String × Bool) × FieldType)), (∀ x ∈ l, x.2 ≠ .float ∧ x.2 ≠ .double) → zi_F2 (zi_vr ad) (l.map (fun q => zi_dfv q.2)) (l.map (fun q => defaultValue q.2))
  | [], _ => trivial
  | x :: l, h => ⟨zi_dfv_ok _ (h x List.mem_cons_self).1 (h x List.mem_cons_self).2 ad, zi_new_ok ad l (fun y hy => h y (List.mem_cons_of_mem _ hy))⟩
theorem zi_go_nw (C : zi_Cx p R s m args meth c B0 D dA adK adV b M d sl) {ci i : Nat} (hd : decode M.2.1 pc = .ok (.new i, 3)) (ho : ∃ q, zi_Fs[ci]? = some q ∧ Cond.classLink M.1.cls i q.1 ∈ zi_gd ∧ Cond.instantiable q.1 q.2.length ∈ zi_gd ∧ Cond.initialized q.1 ∈ zi_gd) (h : zi_nw pc 3 al st A nc ns ci = some (.inl g)) : zi_Go p l e R s m args below meth c B0 D dA adK adV b M.2.2.1 (pc, al, st, A, nc, ns) g := by
  obtain ⟨⟨hx, hb, hml, hret, hown, hts, hlk, hnm⟩, hX, hR, hscr⟩ := C
  obtain ⟨q, hq1, hq2, hq3, hq4⟩ := ho
  have eq : zi_Fs.getD ci ("", []) = q := by rw [List.getD_eq_getElem?_getD, hq1]; rfl
  unfold zi_nw zi_new at h
  rw [eq] at h
  cases h
  intro Q ws H locs ls sc hS hc1 hc2 kk
  obtain ⟨h1, h2, h3, h4, ⟨lv, h5, h7⟩, h6⟩ := hS
  obtain ⟨c1, c2, c3, c4⟩ := zi_cl_ok hq1
  have hty : ∀ x ∈ q.2, x.2 ≠ .float ∧ x.2 ≠ .double := by
    intro x hx'
    obtain ⟨k, hk⟩ := List.getElem?_of_mem hx'
    have hl := (List.getElem?_eq_some_iff.mp hk).1
    have := c4 k hl
    rw [zi_ty_at hq1, List.getD_eq_getElem?_getD, hk] at this
    exact this
  refine va_new (fs := q.2.map (fun z => defaultValue z.2)) hx hb hts c1 (zi_ty ci) c2 hown (hts _ hq2) (hts _ hq3) (hts _ hq4) hX.1 h1 h2 h3 (fun z hz => Nat.le_trans hX.2.2.2.2.2.2.2 hz) (zi_cl_at hq1) (fun j hj => ?_) hc1 hc2 hd (fun a H1 p1 p2 p3 => ?_)
  · rw [zi_ty_at hq1]
    unfold vp_V
    rw [List.getD_eq_getElem?_getD, List.getD_eq_getElem?_getD, List.getElem?_map]
    rw [List.getElem?_eq_getElem hj]
    rfl
  · exact kk _ H1 locs ls _ zi_ex_app (zi_st_new h4 h5 h7 h6 (fun ad => ⟨_, rfl, zi_new_ok ad q.2 hty⟩) p1 p2 p3)
theorem zi_cA {t : Nat} {cA : ClassId} (ht : t < 7) (h1 : va_K D zi_cl (zi_tys dA) s) (h2 : va_K D zi_cl (zi_tys dA ++ [(cA, zi_ft t)]) s) : cA = dA t := by
  have g1 := (h1.2 t _ (zi_tys_at dA ht)).2
  have g2 := (h2.2 7 (cA, zi_ft t) (by rw [List.getElem?_append_right (by simp [zi_tys])]; simp [zi_tys])).2
  rcases (show t = 0 ∨ t = 1 ∨ t = 2 ∨ t = 3 ∨ t = 4 ∨ t = 5 ∨ t = 6 by omega) with z | z | z | z | z | z | z <;> subst z
  · exact Option.some.inj ((show s.vm.findClass _ = some cA from g2).symm.trans (show s.vm.findClass _ = some (dA 0) from g1))
  · exact Option.some.inj ((show s.vm.findClass _ = some cA from g2).symm.trans (show s.vm.findClass _ = some (dA 1) from g1))
  · exact Option.some.inj ((show s.vm.findClass _ = some cA from g2).symm.trans (show s.vm.findClass _ = some (dA 2) from g1))
  · exact Option.some.inj ((show s.vm.findClass _ = some cA from g2).symm.trans (show s.vm.findClass _ = some (dA 3) from g1))
  all_goals (
    obtain ⟨k1, c1, -, -, -, e1⟩ := g1
    obtain ⟨k2, c2, -, -, -, e2⟩ := g2
    exact Option.some.inj (e2.symm.trans e1))
theorem zi_cb (t : Nat) (h : t < 4) {n : Nat} (hn : n ≤ 1000000) : n * componentBytes (zi_ft t) ≤ 536870912 := by
  rcases (show t = 0 ∨ t = 1 ∨ t = 2 ∨ t = 3 by omega) with z | z | z | z <;> subst z
  · rw [show componentBytes (zi_ft 0) = 4 from rfl]; omega
  · rw [show componentBytes (zi_ft 1) = 8 from rfl]; omega
  · rw [show componentBytes (zi_ft 2) = 1 from rfl]; omega
  · rw [show componentBytes (zi_ft 3) = 2 from rfl]; omega
theorem zi_go_nwa (C : zi_Cx p R s m args meth c B0 D dA adK adV b M d sl) {t : Nat} {at0 : ArrayType} (hd : decode M.2.1 pc = .ok (.newarray at0, 2)) (hty : newarray.typeOf at0 = zi_ft t) (h4t : t < 4) (harr : Cond.arrayClass (newarray.typeOf at0) ∈ zi_gd) (h : zi_nwa pc 2 al st A nc ns t = some (.inl g)) : zi_Go p l e R s m args below meth c B0 D dA adK adV b M.2.2.1 (pc, al, st, A, nc, ns) g := by
  obtain ⟨⟨hx, hb, hml, hret, hown, hts, hlk, hnm⟩, hX, hR, hscr⟩ := C
  unfold zi_nwa at h
  split at h
  · rename_i x r
    cases hb1 : (!decide (x < 0) && Nat.ble x.toNatClampNeg 1000000 && Nat.ble t 6) with
    | false => rw [hb1] at h; cases h
    | true =>
      rw [hb1] at h
      simp only [Bool.and_eq_true, Bool.not_eq_true', decide_eq_false_iff_not] at hb1
      have hN := Nat.le_of_ble_eq_true hb1.1.2
      cases h
      intro Q ws H locs ls sc hS hc1 hc2 kk
      obtain ⟨h1, h2, h3, h4, ⟨lv, h5, h7⟩, h6⟩ := hS
      obtain ⟨w, sc, rfl, hw, k6⟩ := zi_F2_cons h6
      have hw : w = .int x := hw
      subst hw
      rcases (show t = 0 ∨ t = 1 ∨ t = 2 ∨ t = 3 by omega) with z | z | z | z <;> subst z
      · refine va_newa (atype := at0) (ty := .int) (N' := x.toNatClampNeg) (a0 := (x.toNatClampNeg, .inl (fun _ => 0))) hx hb (hts _ harr) hty hX.1 h1 h2 h3 (fun z hz => Nat.le_trans hX.2.2.2.2.2.2.2 hz) (fun _ => rfl) hb1.1.1 rfl (zi_cb 0 (by decide) hN) hc1 hc2 hd (fun a cA H1 p0 p1 p2 p3 => ?_)
        have e1 := zi_cA (t := 0) (by decide) hX.1 p0
        subst e1
        exact kk _ H1 locs ls _ zi_ex_app (zi_st_new h4 h5 h7 k6 (fun ad => ⟨_, rfl, fun _ _ => rfl⟩) p1 p2 p3)
      · refine va_newa (atype := at0) (ty := .long) (N' := x.toNatClampNeg) (a0 := (x.toNatClampNeg, .inr (.inl (fun _ => 0)))) hx hb (hts _ harr) hty hX.1 h1 h2 h3 (fun z hz => Nat.le_trans hX.2.2.2.2.2.2.2 hz) (fun _ => rfl) hb1.1.1 rfl (zi_cb 1 (by decide) hN) hc1 hc2 hd (fun a cA H1 p0 p1 p2 p3 => ?_)
        have e1 := zi_cA (t := 1) (by decide) hX.1 p0
        subst e1
        exact kk _ H1 locs ls _ zi_ex_app (zi_st_new h4 h5 h7 k6 (fun ad => ⟨_, rfl, fun _ _ => rfl⟩) p1 p2 p3)
      · refine va_newa (atype := at0) (ty := .boolean) (N' := x.toNatClampNeg) (a0 := (x.toNatClampNeg, .inl (fun _ => 0))) hx hb (hts _ harr) hty hX.1 h1 h2 h3 (fun z hz => Nat.le_trans hX.2.2.2.2.2.2.2 hz) (fun _ => rfl) hb1.1.1 rfl (zi_cb 2 (by decide) hN) hc1 hc2 hd (fun a cA H1 p0 p1 p2 p3 => ?_)
        have e1 := zi_cA (t := 2) (by decide) hX.1 p0
        subst e1
        exact kk _ H1 locs ls _ zi_ex_app (zi_st_new h4 h5 h7 k6 (fun ad => ⟨_, rfl, fun _ _ => rfl⟩) p1 p2 p3)
      · refine va_newa (atype := at0) (ty := .char) (N' := x.toNatClampNeg) (a0 := (x.toNatClampNeg, .inl (fun _ => 0))) hx hb (hts _ harr) hty hX.1 h1 h2 h3 (fun z hz => Nat.le_trans hX.2.2.2.2.2.2.2 hz) (fun _ => rfl) hb1.1.1 rfl (zi_cb 3 (by decide) hN) hc1 hc2 hd (fun a cA H1 p0 p1 p2 p3 => ?_)
        have e1 := zi_cA (t := 3) (by decide) hX.1 p0
        subst e1
        exact kk _ H1 locs ls _ zi_ex_app (zi_st_new h4 h5 h7 k6 (fun ad => ⟨_, rfl, fun _ _ => rfl⟩) p1 p2 p3)
  · cases h
theorem zi_go_nwq (C : zi_Cx p R s m args meth c B0 D dA adK adV b M d sl) {t i : Nat} {Cn : String} (hd : decode M.2.1 pc = .ok (.anewarray i, 3)) (hty : zi_ft t = .object Cn) (h4t : 4 ≤ t) (h6t : t < 7) (hcl : Cond.classLink M.1.cls i Cn ∈ zi_gd) (h : zi_nwa pc 3 al st A nc ns t = some (.inl g)) : zi_Go p l e R s m args below meth c B0 D dA adK adV b M.2.2.1 (pc, al, st, A, nc, ns) g := by
  obtain ⟨⟨hx, hb, hml, hret, hown, hts, hlk, hnm⟩, hX, hR, hscr⟩ := C
  unfold zi_nwa at h
  split at h
  · rename_i x r
    cases hb1 : (!decide (x < 0) && Nat.ble x.toNatClampNeg 1000000 && Nat.ble t 6) with
    | false => rw [hb1] at h; cases h
    | true =>
      rw [hb1] at h
      simp only [Bool.and_eq_true, Bool.not_eq_true', decide_eq_false_iff_not] at hb1
      have hN := Nat.le_of_ble_eq_true hb1.1.2
      cases h
      intro Q ws H locs ls sc hS hc1 hc2 kk
      obtain ⟨h1, h2, h3, h4, ⟨lv, h5, h7⟩, h6⟩ := hS
      obtain ⟨w, sc, rfl, hw, k6⟩ := zi_F2_cons h6
      have hw : w = .int x := hw
      subst hw
      have hao : va_AO Cn s := by
        rcases (show t = 4 ∨ t = 5 ∨ t = 6 by omega) with z | z | z <;> (subst z; cases hty)
        · exact hX.2.2.2.2.2.2.1.1
        · exact hX.2.2.2.2.2.2.1.2.1
        · exact hX.2.2.2.2.2.2.1.2.2
      refine va_newq (N' := x.toNatClampNeg) hx hb hown (hts _ hcl) hao hX.1 h1 h2 h3 (fun z hz => Nat.le_trans hX.2.2.2.2.2.2.2 hz) hb1.1.1 rfl (by omega) hc1 hc2 hd (fun a cA H1 p0 p1 p2 p3 => ?_)
      rw [← hty] at p0
      have e1 := zi_cA h6t hX.1 p0
      subst e1
      refine kk _ H1 locs ls _ zi_ex_app (zi_st_new h4 h5 h7 k6 (fun ad => (?_ : zi_ar _ _ _ _ _ _ _)) p1 p2 p3)
      rcases (show t = 4 ∨ t = 5 ∨ t = 6 by omega) with z | z | z <;> (subst z; exact ⟨_, rfl, fun _ _ => rfl⟩)
  · cases h
end ZH
