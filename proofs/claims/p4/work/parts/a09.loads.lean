section ZH
variable {p : Program} {l : Launch} {e : Env} {R : Room} {s : State} {m : MethodId} {args : Array Value} {below : List Frame} {meth : Method} {c : Code} {B0 : Nat} {D : va_G} {dA : Nat → ClassId} {adK adV : Nat → Nat} {b : Nat} {M : zi_M} {d : Nat} {sl : List zi_V}
variable {pc : Nat} {al : List (Nat × zi_V)} {st : List zi_V} {A : List zi_C} {nc ns : Nat} {g : zi_F}
/-- behind a write: the same addresses -/
theorem zi_st_set {nL : Nat} {ws : va_W} {H1 : Heap} {locs1 : List Loc} {ls : Array Slot} {sc : List Value} {pc' : Nat} {j a : Nat} {e0 e1 : va_E} {cell : zi_C} {lv : List (Nat × Value)} (hj : ws[j]? = some (a, e0)) (h4 : zi_F2 (zi_cr (zi_ad adK adV b ws) dA) A ws) (h5 : lv_has ls nL lv) (h7 : zi_F2 (zi_lr (zi_ad adK adV b ws)) al lv) (h6 : zi_F2 (zi_vr (zi_ad adK adV b ws)) st sc) (hc : zi_cr (zi_ad adK adV b ws) dA cell (a, e1)) (hP : va_P D zi_cl (ws.set j (a, e1)) H1) (hD : va_D (fun q => B0 ≤ q) (ws.set j (a, e1))) (hS : va_S (fun q => B0 ≤ q) s.heap H1 locs1) : zi_St B0 D dA adK adV b nL s (pc', al, st, A.set j cell, nc, ns) (ws.set j (a, e1)) H1 locs1 ls sc := by
  have hm : zi_mo (zi_ad adK adV b ws) (zi_ad adK adV b (ws.set j (a, e1))) := zi_ex_mo (zi_ex_set hj)
  exact ⟨hP, hD, hS, zi_F2_set (zi_cr_mo hm hc) (zi_F2_mono (fun _ _ => zi_cr_mo hm) h4) j, ⟨lv, h5, zi_F2_mono (fun _ _ h => ⟨h.1, zi_vr_mo hm h.2⟩) h7⟩, zi_F2_mono (fun _ _ => zi_vr_mo hm) h6⟩
/-- behind a making: one address more -/
theorem zi_st_new {nL : Nat} {ws : va_W} {H1 : Heap} {locs1 : List Loc} {ls : Array Slot} {sc : List Value} {pc' nc' ns' : Nat} {a : Nat} {e1 : va_E} {cell : zi_C} {lv : List (Nat × Value)} (h4 : zi_F2 (zi_cr (zi_ad adK adV b ws) dA) A ws) (h5 : lv_has ls nL lv) (h7 : zi_F2 (zi_lr (zi_ad adK adV b ws)) al lv) (h6 : zi_F2 (zi_vr (zi_ad adK adV b ws)) st sc) (hc : ∀ ad, zi_cr ad dA cell (a, e1)) (hP : va_P D zi_cl (ws ++ [(a, e1)]) H1) (hD : va_D (fun q => B0 ≤ q) (ws ++ [(a, e1)])) (hS : va_S (fun q => B0 ≤ q) s.heap H1 locs1) : zi_St B0 D dA adK adV b nL s (pc', al, .inl (.ref (10 + A.length)) :: st, A ++ [cell], nc', ns') (ws ++ [(a, e1)]) H1 locs1 ls (.ref a :: sc) := by
  have hm : zi_mo (zi_ad adK adV b ws) (zi_ad adK adV b (ws ++ [(a, e1)])) := zi_ex_mo zi_ex_app
  have hl := zi_F2_len h4
  refine ⟨hP, hD, hS, zi_F2_app (zi_F2_mono (fun _ _ => zi_cr_mo hm) h4) ⟨hc _, trivial⟩, ⟨lv, h5, zi_F2_mono (fun _ _ h => ⟨h.1, zi_vr_mo hm h.2⟩) h7⟩, ⟨⟨a, ?_, rfl⟩, zi_F2_mono (fun _ _ => zi_vr_mo hm) h6⟩⟩
  unfold zi_ad
  rw [if_neg (by omega), if_neg (by omega), if_neg (by omega), if_neg (by omega), Nat.add_sub_cancel_left, hl]
  simp
theorem zi_go_put (C : zi_Cx p R s m args meth c B0 D dA adK adV b M d sl) {ci k i : Nat} (hd : decode M.2.1 pc = .ok (.putfield i, 3)) (ho : ∃ q, zi_Fs[ci]? = some q ∧ k < q.2.length ∧ Cond.fieldLink M.1.cls i (zi_Tf q k).1 (zi_Tf q k).2.1 (zi_Tf q k).2.2.1 ∈ zi_gd ∧ ((zi_Tf q k).2.2.2 = true → M.1.name = "<init>" ∧ (zi_Tf q k).1 = M.1.cls)) (h : zi_put pc 3 al st A nc ns ci k = some (.inl g)) : zi_Go p l e R s m args below meth c B0 D dA adK adV b M.2.2.1 (pc, al, st, A, nc, ns) g := by
  obtain ⟨⟨hx, hb, hml, hret, hown, hts, hlk, hnm⟩, hX, hR, hscr⟩ := C
  obtain ⟨qq, hq1, hq2, hq3, hq4⟩ := ho
  unfold zi_put at h
  split at h
  · rename_i v r rest
    cases hb1 : Nat.ble 10 r with
    | false => rw [hb1] at h; cases h
    | true =>
      rw [hb1] at h
      have hr := Nat.le_of_ble_eq_true hb1
      simp only [cond_true] at h
      split at h
      · rename_i q hA
        cases hb2 : (Nat.beq q.1 ci && Nat.ble (k + 1) q.2.length && zi_fit (zi_ty ci k) v) with
        | false => rw [hb2] at h; cases h
        | true =>
          rw [hb2] at h
          rw [Bool.and_eq_true, Bool.and_eq_true] at hb2
          have e1 := Nat.eq_of_beq_eq_true hb2.1.1
          have e2 := Nat.le_of_ble_eq_true hb2.1.2
          cases h
          intro Q ws H locs ls sc hS _ _ kk
          obtain ⟨h1, h2, h3, h4, ⟨lv, h5, h7⟩, h6⟩ := hS
          obtain ⟨w, sc, rfl, hw, k5⟩ := zi_F2_cons h6
          obtain ⟨w1, sc, rfl, ⟨a, had, rfl⟩, k6⟩ := zi_F2_cons k5
          obtain ⟨vs, hvs, hF⟩ := zi_cell_obj h4 hr had hA
          obtain ⟨hn, hfit⟩ := zi_fit_ok hw hb2.2
          obtain ⟨c1, c2, c3, c4⟩ := zi_cl_ok hq1
          rw [e1] at hvs
          have hl : k < vs.length := by rw [← zi_F2_len hF]; omega
          have post : ∀ (H1 : Heap) (locs1 : List Loc), va_P D zi_cl (ws.set (r - 10) (a, .inr (ci, vs.set k w))) H1 → va_D (fun q => B0 ≤ q) (ws.set (r - 10) (a, .inr (ci, vs.set k w))) → va_S (fun q => B0 ≤ q) s.heap H1 locs1 → zi_W p l e R s m args below meth c Q nc ns (pc + 3) H1 locs1 ls sc := fun H1 locs1 p1 p2 p3 =>
            kk _ H1 locs1 ls sc (zi_ex_set hvs) (zi_st_set hvs h4 h5 h7 k6 ⟨_, rfl, zi_F2_set hw hF k⟩ p1 p2 p3)
          cases hfi : (zi_Tf qq k).2.2.2 with
          | false => exact va_put hx hb hts c1 (zi_ty ci) c2 c3 hown hX.1 h1 h2 h3 (r - 10) hvs (zi_cl_at hq1) k hq2 (hts _ hq3) (fun x hx => hx) hfi (c2 k hq2) hn hfit hl hd post
          | true => exact va_putF hx hb hts c1 (zi_ty ci) c2 c3 hown hX.1 h1 h2 h3 (r - 10) hvs (zi_cl_at hq1) k hq2 (hts _ hq3) (fun x hx => hx) hfi (hnm.trans (hq4 hfi).1) (hq4 hfi).2 (c2 k hq2) hn hfit hl hd post
      · cases h
  · cases h
theorem zi_go_gts (C : zi_Cx p R s m args meth c B0 D dA adK adV b M d sl) {k i : Nat} (hd : decode M.2.1 pc = .ok (.getstatic i, 3)) (h0 : k = 0 → Cond.fieldLink M.1.cls i "java/lang/String" "COMPACT_STRINGS" "Z" ∈ zi_gd) (h1 : k ≠ 0 → Cond.fieldLink M.1.cls i "jdk/internal/util/Preconditions" "SIOOBE_FORMATTER" "Ljava/util/function/BiFunction;" ∈ zi_gd) (h : zi_gts pc 3 al st A nc ns k = some (.inl g)) : zi_Go p l e R s m args below meth c B0 D dA adK adV b M.2.2.1 (pc, al, st, A, nc, ns) g := by
  obtain ⟨⟨hx, hb, hml, hret, hown, hts, hlk, hnm⟩, hX, hR, hscr⟩ := C
  unfold zi_gts at h
  split at h
  · cases h
    intro Q ws H locs ls sc hS _ _ kk
    obtain ⟨g1, g2, g3, g4, g5, g6⟩ := hS
    exact va_gets hx hb hX.2.2.2.1 g3 hown (hts _ (h0 rfl)) (fun x hx => hx) hd (kk ws H locs ls _ (zi_ex_refl ws) ⟨g1, g2, g3, g4, g5, ⟨rfl, g6⟩⟩)
  · rename_i hk
    cases h
    intro Q ws H locs ls sc hS _ _ kk
    obtain ⟨g1, g2, g3, g4, g5, g6⟩ := hS
    rcases hX.2.2.2.2.1 with z | ⟨t, z⟩
    · exact va_gets hx hb z g3 hown (hts _ (h1 hk)) (fun x hx => hx) hd (kk ws H locs ls _ (zi_ex_refl ws) ⟨g1, g2, g3, g4, g5, ⟨Or.inl rfl, g6⟩⟩)
    · exact va_gets hx hb z g3 hown (hts _ (h1 hk)) (fun x hx => hx) hd (kk ws H locs ls _ (zi_ex_refl ws) ⟨g1, g2, g3, g4, g5, ⟨Or.inr ⟨t, rfl⟩, g6⟩⟩)
theorem zi_ar_len {ad : Nat → Option Nat} {t n : Nat} {dv : zi_V} {us : List (Nat × zi_V)} {e0 : va_E} (h : zi_ar ad dA t n dv us e0) : ∃ x : vp_A, e0 = .inl (dA t, x) ∧ x.1 = n := by
  unfold zi_ar at h
  split at h <;> (obtain ⟨f, rfl, -⟩ := h; exact ⟨_, rfl, rfl⟩)
theorem zi_go_len (C : zi_Cx p R s m args meth c B0 D dA adK adV b M d sl) (hd : decode M.2.1 pc = .ok (.arraylength, 1)) (h : zi_len sl pc 1 al st A nc ns = some (.inl g)) : zi_Go p l e R s m args below meth c B0 D dA adK adV b M.2.2.1 (pc, al, st, A, nc, ns) g := by
  obtain ⟨⟨hx, hb, hml, hret, hown, hts, hlk, hnm⟩, hX, hR, hscr⟩ := C
  unfold zi_len at h
  split at h
  · rename_i r rest
    cases hb1 : Nat.ble 10 r with
    | true =>
      rw [hb1] at h
      have hr := Nat.le_of_ble_eq_true hb1
      simp only [cond_true] at h
      split at h
      · rename_i q hA
        cases hb5 : Nat.ble q.1 6 with
        | false => rw [hb5] at h; cases h
        | true =>
        rw [hb5] at h
        have hb5 := Nat.le_of_ble_eq_true hb5
        cases h
        intro Q ws H locs ls sc hS _ _ kk
        obtain ⟨h1, h2, h3, h4, h5, h6⟩ := hS
        obtain ⟨w1, sc, rfl, ⟨a, had, rfl⟩, k6⟩ := zi_F2_cons h6
        obtain ⟨e0, he0, har⟩ := zi_cell_arr h4 hr had hA
        obtain ⟨x, rfl, hxn⟩ := zi_ar_len har
        exact va_alen hx hb hX.1 h1 (r - 10) q.1 he0 (zi_tys_at dA (Nat.lt_succ_of_le hb5)) (by rw [hxn]) hd (kk ws H locs ls _ (zi_ex_refl ws) ⟨h1, h2, h3, h4, h5, ⟨rfl, k6⟩⟩)
      · cases h
    | false =>
      rw [hb1] at h
      simp only [cond_false] at h
      cases hb2 : Nat.beq r 8 with
      | true =>
        rw [hb2] at h
        simp only [cond_true] at h
        have e8 := Nat.eq_of_beq_eq_true hb2
        split at h
        · cases h
        · rename_i v vs
          cases h
          intro Q ws H locs ls sc hS _ _ kk
          obtain ⟨h1, h2, h3, h4, h5, h6⟩ := hS
          obtain ⟨w1, sc, rfl, ⟨a, had, rfl⟩, k6⟩ := zi_F2_cons h6
          rw [e8] at had
          have ha := zi_ad_scr had
          subst ha
          rcases hscr with hz | ⟨xs, s1, s2, s3, s4⟩
          · cases hz
          · exact va_slen hx hb s1 s2 (Nat.not_le.mpr s3) h3 hd (kk ws H locs ls _ (zi_ex_refl ws) ⟨h1, h2, h3, h4, h5, ⟨rfl, k6⟩⟩)
      | false =>
        rw [hb2] at h
        simp only [cond_false] at h
        cases hb3 : (Nat.ble 4 r && Nat.ble (r + 1) 8) with
        | false => rw [hb3] at h; cases h
        | true =>
          rw [hb3] at h
          rw [Bool.and_eq_true] at hb3
          have r4 := Nat.le_of_ble_eq_true hb3.1
          have r8 := Nat.le_of_ble_eq_true hb3.2
          cases h
          intro Q ws H locs ls sc hS _ _ kk
          obtain ⟨h1, h2, h3, h4, h5, h6⟩ := hS
          obtain ⟨w1, sc, rfl, ⟨a, had, rfl⟩, k6⟩ := zi_F2_cons h6
          have ha := zi_ad_byt r4 r8 had
          subst ha
          exact va_tlen hx hb (hX.2.1.1 (r - 4) (by omega)).2.2.2 h3 rfl hd (kk ws H locs ls _ (zi_ex_refl ws) ⟨h1, h2, h3, h4, h5, ⟨rfl, k6⟩⟩)
  · cases h
theorem zi_go_iald (C : zi_Cx p R s m args meth c B0 D dA adK adV b M d sl) (hd : decode M.2.1 pc = .ok (.iaload, 1)) (h : zi_ald 0 sl pc 1 al st A nc ns = some (.inl g)) : zi_Go p l e R s m args below meth c B0 D dA adK adV b M.2.2.1 (pc, al, st, A, nc, ns) g := by
  obtain ⟨⟨hx, hb, hml, hret, hown, hts, hlk, hnm⟩, hX, hR, hscr⟩ := C
  unfold zi_ald at h
  split at h
  · rename_i x r rest
    cases hb1 : Nat.ble 10 r with
    | true =>
      rw [hb1] at h
      have hr := Nat.le_of_ble_eq_true hb1
      simp only [cond_true] at h
      split at h
      · rename_i q hA
        cases hb2 : (((Nat.beq q.1 0 && Nat.ble q.1 6) || (Nat.beq 0 7 && Nat.ble 4 q.1 && Nat.ble q.1 6)) && zi_in x q.2.1) with
        | false => rw [hb2] at h; cases h
        | true =>
          rw [hb2] at h
          rw [Bool.and_eq_true] at hb2
          have hin := zi_in_ok hb2.2
          cases h
          intro Q ws H locs ls sc hS _ _ kk
          obtain ⟨h1, h2, h3, h4, h5, h6⟩ := hS
          obtain ⟨w0, sc, rfl, hw0, k5⟩ := zi_F2_cons h6
          have hw0 : w0 = .int x := hw0
          subst hw0
          obtain ⟨w1, sc, rfl, ⟨a, had, rfl⟩, k6⟩ := zi_F2_cons k5
          obtain ⟨e0, he0, har⟩ := zi_cell_arr h4 hr had hA
          have e1 : q.1 = 0 := by
            have z := hb2.1
            simp only [Bool.or_eq_true, Bool.and_eq_true] at z
            rcases z with z | z
            · exact Nat.eq_of_beq_eq_true z.1
            · exact absurd z.1.1 (by decide)
          rw [e1] at har
          obtain ⟨f, rfl, hf⟩ := har
          have hlt : x.toNatClampNeg < q.2.1 := Nat.lt_of_not_le (fun z => hin (Or.inr z))
          exact va_iald hx hb hX.1 h1 (r - 10) 0 he0 (zi_tys_at dA (by decide)) hin hd (kk ws H locs ls _ (zi_ex_refl ws) ⟨h1, h2, h3, h4, h5, ⟨hf _ hlt, k6⟩⟩)
      · cases h
    | false =>
      rw [hb1] at h
      simp only [cond_false] at h
      cases hb2 : (Nat.beq r 8 && Nat.beq 0 0 && zi_in x sl.length) with
      | true =>
        rw [hb2] at h
        rw [Bool.and_eq_true, Bool.and_eq_true] at hb2
        have e8 := Nat.eq_of_beq_eq_true hb2.1.1
        have hin := zi_in_ok hb2.2
        simp only [cond_true] at h
        split at h
        · rename_i v hv
          cases h
          intro Q ws H locs ls sc hS _ _ kk
          obtain ⟨h1, h2, h3, h4, h5, h6⟩ := hS
          obtain ⟨w0, sc, rfl, hw0, k5⟩ := zi_F2_cons h6
          have hw0 : w0 = .int x := hw0
          subst hw0
          obtain ⟨w1, sc, rfl, ⟨a, had, rfl⟩, k6⟩ := zi_F2_cons k5
          rw [e8] at had
          have ha := zi_ad_scr had
          subst ha
          rcases hscr with hz | ⟨xs, s1, s2, s3, s4⟩
          · rw [hz] at hv; simp at hv
          · exact va_sld hx hb s1 s2 (Nat.not_le.mpr s3) h3 hin hd (kk ws H locs ls _ (zi_ex_refl ws) ⟨h1, h2, h3, h4, h5, ⟨s4 _ _ _ hv, k6⟩⟩)
        · cases h
      | false =>
        rw [hb2] at h
        simp only [cond_false] at h
        cases hb3 : (Nat.ble 4 r && Nat.ble (r + 1) 8 && Nat.beq 0 2 && zi_in x (zi_sn.getD (r - 4) 0)) with
        | false => rw [hb3] at h; cases h
        | true =>
          rw [Bool.and_eq_true, Bool.and_eq_true] at hb3
          exact absurd hb3.1.2 (by decide)
  · cases h
theorem zi_go_lald (C : zi_Cx p R s m args meth c B0 D dA adK adV b M d sl) (hd : decode M.2.1 pc = .ok (.laload, 1)) (h : zi_ald 1 sl pc 1 al st A nc ns = some (.inl g)) : zi_Go p l e R s m args below meth c B0 D dA adK adV b M.2.2.1 (pc, al, st, A, nc, ns) g := by
  obtain ⟨⟨hx, hb, hml, hret, hown, hts, hlk, hnm⟩, hX, hR, hscr⟩ := C
  unfold zi_ald at h
  split at h
  · rename_i x r rest
    cases hb1 : Nat.ble 10 r with
    | true =>
      rw [hb1] at h
      have hr := Nat.le_of_ble_eq_true hb1
      simp only [cond_true] at h
      split at h
      · rename_i q hA
        cases hb2 : (((Nat.beq q.1 1 && Nat.ble q.1 6) || (Nat.beq 1 7 && Nat.ble 4 q.1 && Nat.ble q.1 6)) && zi_in x q.2.1) with
        | false => rw [hb2] at h; cases h
        | true =>
          rw [hb2] at h
          rw [Bool.and_eq_true] at hb2
          have hin := zi_in_ok hb2.2
          cases h
          intro Q ws H locs ls sc hS _ _ kk
          obtain ⟨h1, h2, h3, h4, h5, h6⟩ := hS
          obtain ⟨w0, sc, rfl, hw0, k5⟩ := zi_F2_cons h6
          have hw0 : w0 = .int x := hw0
          subst hw0
          obtain ⟨w1, sc, rfl, ⟨a, had, rfl⟩, k6⟩ := zi_F2_cons k5
          obtain ⟨e0, he0, har⟩ := zi_cell_arr h4 hr had hA
          have e1 : q.1 = 1 := by
            have z := hb2.1
            simp only [Bool.or_eq_true, Bool.and_eq_true] at z
            rcases z with z | z
            · exact Nat.eq_of_beq_eq_true z.1
            · exact absurd z.1.1 (by decide)
          rw [e1] at har
          obtain ⟨f, rfl, hf⟩ := har
          have hlt : x.toNatClampNeg < q.2.1 := Nat.lt_of_not_le (fun z => hin (Or.inr z))
          exact va_lald hx hb hX.1 h1 (r - 10) 1 he0 (zi_tys_at dA (by decide)) hin hd (kk ws H locs ls _ (zi_ex_refl ws) ⟨h1, h2, h3, h4, h5, ⟨hf _ hlt, k6⟩⟩)
      · cases h
    | false =>
      rw [hb1] at h
      simp only [cond_false] at h
      cases hb2 : (Nat.beq r 8 && Nat.beq 1 0 && zi_in x sl.length) with
      | true =>
        rw [Bool.and_eq_true, Bool.and_eq_true] at hb2
        exact absurd hb2.1.2 (by decide)
      | false =>
        rw [hb2] at h
        simp only [cond_false] at h
        cases hb3 : (Nat.ble 4 r && Nat.ble (r + 1) 8 && Nat.beq 1 2 && zi_in x (zi_sn.getD (r - 4) 0)) with
        | false => rw [hb3] at h; cases h
        | true =>
          rw [Bool.and_eq_true, Bool.and_eq_true] at hb3
          exact absurd hb3.1.2 (by decide)
  · cases h
theorem zi_go_bald (C : zi_Cx p R s m args meth c B0 D dA adK adV b M d sl) (hd : decode M.2.1 pc = .ok (.baload, 1)) (h : zi_ald 2 sl pc 1 al st A nc ns = some (.inl g)) : zi_Go p l e R s m args below meth c B0 D dA adK adV b M.2.2.1 (pc, al, st, A, nc, ns) g := by
  obtain ⟨⟨hx, hb, hml, hret, hown, hts, hlk, hnm⟩, hX, hR, hscr⟩ := C
  unfold zi_ald at h
  split at h
  · rename_i x r rest
    cases hb1 : Nat.ble 10 r with
    | true =>
      rw [hb1] at h
      have hr := Nat.le_of_ble_eq_true hb1
      simp only [cond_true] at h
      split at h
      · rename_i q hA
        cases hb2 : (((Nat.beq q.1 2 && Nat.ble q.1 6) || (Nat.beq 2 7 && Nat.ble 4 q.1 && Nat.ble q.1 6)) && zi_in x q.2.1) with
        | false => rw [hb2] at h; cases h
        | true =>
          rw [hb2] at h
          rw [Bool.and_eq_true] at hb2
          have hin := zi_in_ok hb2.2
          cases h
          intro Q ws H locs ls sc hS _ _ kk
          obtain ⟨h1, h2, h3, h4, h5, h6⟩ := hS
          obtain ⟨w0, sc, rfl, hw0, k5⟩ := zi_F2_cons h6
          have hw0 : w0 = .int x := hw0
          subst hw0
          obtain ⟨w1, sc, rfl, ⟨a, had, rfl⟩, k6⟩ := zi_F2_cons k5
          obtain ⟨e0, he0, har⟩ := zi_cell_arr h4 hr had hA
          have e1 : q.1 = 2 := by
            have z := hb2.1
            simp only [Bool.or_eq_true, Bool.and_eq_true] at z
            rcases z with z | z
            · exact Nat.eq_of_beq_eq_true z.1
            · exact absurd z.1.1 (by decide)
          rw [e1] at har
          obtain ⟨f, rfl, hf⟩ := har
          have hlt : x.toNatClampNeg < q.2.1 := Nat.lt_of_not_le (fun z => hin (Or.inr z))
          exact va_zald hx hb hX.1 h1 (r - 10) 2 he0 (zi_tys_at dA (by decide)) hin hd (kk ws H locs ls _ (zi_ex_refl ws) ⟨h1, h2, h3, h4, h5, ⟨hf _ hlt, k6⟩⟩)
      · cases h
    | false =>
      rw [hb1] at h
      simp only [cond_false] at h
      cases hb2 : (Nat.beq r 8 && Nat.beq 2 0 && zi_in x sl.length) with
      | true =>
        rw [Bool.and_eq_true, Bool.and_eq_true] at hb2
        exact absurd hb2.1.2 (by decide)
      | false =>
        rw [hb2] at h
        simp only [cond_false] at h
        cases hb3 : (Nat.ble 4 r && Nat.ble (r + 1) 8 && Nat.beq 2 2 && zi_in x (zi_sn.getD (r - 4) 0)) with
        | false => rw [hb3] at h; cases h
        | true =>
          rw [hb3] at h
          rw [Bool.and_eq_true, Bool.and_eq_true, Bool.and_eq_true] at hb3
          have r4 := Nat.le_of_ble_eq_true hb3.1.1.1
          have r8 := Nat.le_of_ble_eq_true hb3.1.1.2
          have hin := zi_in_ok hb3.2
          cases h
          intro Q ws H locs ls sc hS _ _ kk
          obtain ⟨h1, h2, h3, h4, h5, h6⟩ := hS
          obtain ⟨w0, sc, rfl, hw0, k5⟩ := zi_F2_cons h6
          have hw0 : w0 = .int x := hw0
          subst hw0
          obtain ⟨w1, sc, rfl, ⟨a, had, rfl⟩, k6⟩ := zi_F2_cons k5
          have ha := zi_ad_byt r4 r8 had
          subst ha
          exact va_tb hx hb (hX.2.1.1 (r - 4) (by omega)).2.2.2 h3 hin rfl hd (kk ws H locs ls _ (zi_ex_refl ws) ⟨h1, h2, h3, h4, h5, ⟨rfl, k6⟩⟩)
  · cases h
theorem zi_go_cald (C : zi_Cx p R s m args meth c B0 D dA adK adV b M d sl) (hd : decode M.2.1 pc = .ok (.caload, 1)) (h : zi_ald 3 sl pc 1 al st A nc ns = some (.inl g)) : zi_Go p l e R s m args below meth c B0 D dA adK adV b M.2.2.1 (pc, al, st, A, nc, ns) g := by
  obtain ⟨⟨hx, hb, hml, hret, hown, hts, hlk, hnm⟩, hX, hR, hscr⟩ := C
  unfold zi_ald at h
  split at h
  · rename_i x r rest
    cases hb1 : Nat.ble 10 r with
    | true =>
      rw [hb1] at h
      have hr := Nat.le_of_ble_eq_true hb1
      simp only [cond_true] at h
      split at h
      · rename_i q hA
        cases hb2 : (((Nat.beq q.1 3 && Nat.ble q.1 6) || (Nat.beq 3 7 && Nat.ble 4 q.1 && Nat.ble q.1 6)) && zi_in x q.2.1) with
        | false => rw [hb2] at h; cases h
        | true =>
          rw [hb2] at h
          rw [Bool.and_eq_true] at hb2
          have hin := zi_in_ok hb2.2
          cases h
          intro Q ws H locs ls sc hS _ _ kk
          obtain ⟨h1, h2, h3, h4, h5, h6⟩ := hS
          obtain ⟨w0, sc, rfl, hw0, k5⟩ := zi_F2_cons h6
          have hw0 : w0 = .int x := hw0
          subst hw0
          obtain ⟨w1, sc, rfl, ⟨a, had, rfl⟩, k6⟩ := zi_F2_cons k5
          obtain ⟨e0, he0, har⟩ := zi_cell_arr h4 hr had hA
          have e1 : q.1 = 3 := by
            have z := hb2.1
            simp only [Bool.or_eq_true, Bool.and_eq_true] at z
            rcases z with z | z
            · exact Nat.eq_of_beq_eq_true z.1
            · exact absurd z.1.1 (by decide)
          rw [e1] at har
          obtain ⟨f, rfl, hf⟩ := har
          have hlt : x.toNatClampNeg < q.2.1 := Nat.lt_of_not_le (fun z => hin (Or.inr z))
          exact va_cald hx hb hX.1 h1 (r - 10) 3 he0 (zi_tys_at dA (by decide)) hin hd (kk ws H locs ls _ (zi_ex_refl ws) ⟨h1, h2, h3, h4, h5, ⟨hf _ hlt, k6⟩⟩)
      · cases h
    | false =>
      rw [hb1] at h
      simp only [cond_false] at h
      cases hb2 : (Nat.beq r 8 && Nat.beq 3 0 && zi_in x sl.length) with
      | true =>
        rw [Bool.and_eq_true, Bool.and_eq_true] at hb2
        exact absurd hb2.1.2 (by decide)
      | false =>
        rw [hb2] at h
        simp only [cond_false] at h
        cases hb3 : (Nat.ble 4 r && Nat.ble (r + 1) 8 && Nat.beq 3 2 && zi_in x (zi_sn.getD (r - 4) 0)) with
        | false => rw [hb3] at h; cases h
        | true =>
          rw [Bool.and_eq_true, Bool.and_eq_true] at hb3
          exact absurd hb3.1.2 (by decide)
  · cases h
theorem zi_go_aald (C : zi_Cx p R s m args meth c B0 D dA adK adV b M d sl) (hd : decode M.2.1 pc = .ok (.aaload, 1)) (h : zi_ald 7 sl pc 1 al st A nc ns = some (.inl g)) : zi_Go p l e R s m args below meth c B0 D dA adK adV b M.2.2.1 (pc, al, st, A, nc, ns) g := by
  obtain ⟨⟨hx, hb, hml, hret, hown, hts, hlk, hnm⟩, hX, hR, hscr⟩ := C
  unfold zi_ald at h
  split at h
  · rename_i x r rest
    cases hb1 : Nat.ble 10 r with
    | true =>
      rw [hb1] at h
      have hr := Nat.le_of_ble_eq_true hb1
      simp only [cond_true] at h
      split at h
      · rename_i q hA
        cases hb2 : (((Nat.beq q.1 7 && Nat.ble q.1 6) || (Nat.beq 7 7 && Nat.ble 4 q.1 && Nat.ble q.1 6)) && zi_in x q.2.1) with
        | false => rw [hb2] at h; cases h
        | true =>
          rw [hb2] at h
          rw [Bool.and_eq_true] at hb2
          have hin := zi_in_ok hb2.2
          cases h
          intro Q ws H locs ls sc hS _ _ kk
          obtain ⟨h1, h2, h3, h4, h5, h6⟩ := hS
          obtain ⟨w0, sc, rfl, hw0, k5⟩ := zi_F2_cons h6
          have hw0 : w0 = .int x := hw0
          subst hw0
          obtain ⟨w1, sc, rfl, ⟨a, had, rfl⟩, k6⟩ := zi_F2_cons k5
          obtain ⟨e0, he0, har⟩ := zi_cell_arr h4 hr had hA
          have e1 : 4 ≤ q.1 ∧ q.1 ≤ 6 := by
            have z := hb2.1
            simp only [Bool.or_eq_true, Bool.and_eq_true] at z
            rcases z with z | z
            · exact absurd (Nat.eq_of_beq_eq_true z.1) (by
                have := Nat.le_of_ble_eq_true z.2
                omega)
            · exact ⟨Nat.le_of_ble_eq_true z.1.2, Nat.le_of_ble_eq_true z.2⟩
          have ek : zi_tk q.1 = 2 ∧ ∃ Cn, zi_ft q.1 = .object Cn := by
            rcases (show q.1 = 4 ∨ q.1 = 5 ∨ q.1 = 6 by omega) with z | z | z <;> (rw [z]; exact ⟨rfl, _, rfl⟩)
          obtain ⟨ek, Cn, hCn⟩ := ek
          unfold zi_ar at har
          rw [ek] at har
          obtain ⟨f, rfl, hf⟩ := har
          have hlt : x.toNatClampNeg < q.2.1 := Nat.lt_of_not_le (fun z => hin (Or.inr z))
          exact va_aldq hx hb hX.1 h1 (r - 10) q.1 he0 (by rw [zi_tys_at dA (by omega), hCn]) hin hd (kk ws H locs ls _ (zi_ex_refl ws) ⟨h1, h2, h3, h4, h5, ⟨hf _ hlt, k6⟩⟩)
      · cases h
    | false =>
      rw [hb1] at h
      simp only [cond_false] at h
      cases hb2 : (Nat.beq r 8 && Nat.beq 7 0 && zi_in x sl.length) with
      | true =>
        rw [Bool.and_eq_true, Bool.and_eq_true] at hb2
        exact absurd hb2.1.2 (by decide)
      | false =>
        rw [hb2] at h
        simp only [cond_false] at h
        cases hb3 : (Nat.ble 4 r && Nat.ble (r + 1) 8 && Nat.beq 7 2 && zi_in x (zi_sn.getD (r - 4) 0)) with
        | false => rw [hb3] at h; cases h
        | true =>
          rw [Bool.and_eq_true, Bool.and_eq_true] at hb3
          exact absurd hb3.1.2 (by decide)
  · cases h
end ZH
