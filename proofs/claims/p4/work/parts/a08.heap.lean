def zi_Tf (q : String × List ((String × String × String × Bool) × FieldType)) : u_T := fun k => (q.2.getD k (("", "", "", false), .int)).1
theorem zi_cl_at {ci : Nat} {q : String × List ((String × String × String × Bool) × FieldType)} (h : zi_Fs[ci]? = some q) : zi_cl[ci]? = some (q.1, zi_Tf q, q.2.length) := by
  unfold zi_cl
  rw [List.getElem?_map, h]
  rfl
theorem zi_ty_at {ci : Nat} {q : String × List ((String × String × String × Bool) × FieldType)} (h : zi_Fs[ci]? = some q) (k : Nat) : zi_ty ci k = (q.2.getD k (("", "", "", false), .int)).2 := by
  have e1 : zi_Fs.getD ci ("", []) = q := by rw [List.getD_eq_getElem?_getD, h]; rfl
  unfold zi_ty
  rw [e1]
theorem zi_cl_ok {ci : Nat} {q : String × List ((String × String × String × Bool) × FieldType)} (h : zi_Fs[ci]? = some q) : (∀ w ∈ u_ws q.1 (zi_Tf q) q.2.length, w ∈ zi_gd) ∧ (∀ k, k < q.2.length → parseFieldDescriptor (zi_Tf q k).2.2.1 = some (zi_ty ci k)) ∧ (∀ a, a < q.2.length → ∀ b, b < q.2.length → a ≠ b → (zi_Tf q a).2.1 ≠ (zi_Tf q b).2.1) ∧ ∀ k, k < q.2.length → zi_ty ci k ≠ .float ∧ zi_ty ci k ≠ .double := by
  have hq := List.all_eq_true.mp zi_ckc_all q (List.mem_of_getElem? h)
  have key : ∀ k, k < q.2.length → _ := fun k hk => List.all_eq_true.mp hq k (List.mem_range.mpr hk)
  simp only [Bool.and_eq_true, decide_eq_true_eq, Bool.not_eq_true', decide_eq_false_iff_not] at key
  refine ⟨?_, ?_, ?_, ?_⟩
  · intro w hw
    obtain ⟨k, hk, rfl⟩ := List.mem_map.mp hw
    have := key k (List.mem_range.mp hk)
    exact List.mem_filter.mpr ⟨this.1.1.1.1.1, this.1.1.1.1.2⟩
  · intro k hk
    rw [zi_ty_at h]
    exact (key k hk).1.1.1.2
  · intro a ha b hb hab e
    have h1 := List.all_eq_true.mp (key b hb).2 a (List.mem_range.mpr ha)
    simp only [Bool.or_eq_true, decide_eq_true_eq, Bool.not_eq_true', decide_eq_false_iff_not] at h1
    rcases h1 with h1 | h1
    · exact hab h1
    · exact h1 e
  · intro k hk
    rw [zi_ty_at h]
    exact ⟨(key k hk).1.1.2, (key k hk).1.2⟩
theorem zi_cl_none : zi_cl[100]? = none := List.getElem?_eq_none_iff.mpr (by decide +kernel)
theorem zi_fit_ok {ad : Nat → Option Nat} {ty : FieldType} {v : zi_V} {w : Value} (h : zi_vr ad v w) (hf : zi_fit ty v = true) : narrow ty w = w ∧ fits ty w = true := by
  unfold zi_vr at h
  split at h
  · subst h
    unfold zi_fit at hf
    simpa using hf
  · subst h
    unfold zi_fit at hf
    simpa using hf
  · subst h
    unfold zi_fit at hf
    simpa using hf
  · obtain ⟨a, -, rfl⟩ := h
    unfold zi_fit at hf
    cases ty <;> first | exact ⟨rfl, rfl⟩ | (simp [fits] at hf)
  · unfold zi_fit at hf
    cases ty <;> simp [fits] at hf
  · exact h.elim
  · exact h.elim
  · obtain ⟨x, rfl, -, -⟩ := h
    unfold zi_fit at hf
    have hf : ty = .int := by simpa using hf
    subst hf
    exact ⟨rfl, rfl⟩
theorem zi_in_ok {x : Int32} {n : Nat} (h : zi_in x n = true) : vp_in x n := by
  unfold zi_in at h
  rw [Bool.and_eq_true, Bool.not_eq_true', decide_eq_false_iff_not] at h
  have h2 := Nat.le_of_ble_eq_true h.2
  intro z
  rcases z with z | z
  · exact h.1 z
  · omega
section ZH
variable {p : Program} {l : Launch} {e : Env} {R : Room} {s : State} {m : MethodId} {args : Array Value} {below : List Frame} {meth : Method} {c : Code} {B0 : Nat} {D : va_G} {dA : Nat → ClassId} {adK adV : Nat → Nat} {b : Nat} {M : zi_M} {d : Nat} {sl : List zi_V}
variable {pc : Nat} {al : List (Nat × zi_V)} {st : List zi_V} {A : List zi_C} {nc ns : Nat} {g : zi_F}
theorem zi_cell_obj {ws : va_W} {r a : Nat} {q : Nat × List zi_V} (h4 : zi_F2 (zi_cr (zi_ad adK adV b ws) dA) A ws) (hr : 10 ≤ r) (had : zi_ad adK adV b ws r = some a) (hA : A[r - 10]? = some (.inl q)) : ∃ vs, ws[r - 10]? = some (a, .inr (q.1, vs)) ∧ zi_F2 (zi_vr (zi_ad adK adV b ws)) q.2 vs := by
  obtain ⟨e0, h1⟩ := zi_ad_own hr had
  obtain ⟨x, h2, vs, h3, h5⟩ := zi_F2_get h4 hA
  rw [h1] at h2
  cases h2
  exact ⟨vs, by rw [h1]; have h3 : e0 = _ := h3; rw [h3], h5⟩
theorem zi_cell_arr {ws : va_W} {r a : Nat} {q : Nat × Nat × zi_V × List (Nat × zi_V)} (h4 : zi_F2 (zi_cr (zi_ad adK adV b ws) dA) A ws) (hr : 10 ≤ r) (had : zi_ad adK adV b ws r = some a) (hA : A[r - 10]? = some (.inr q)) : ∃ e0, ws[r - 10]? = some (a, e0) ∧ zi_ar (zi_ad adK adV b ws) dA q.1 q.2.1 q.2.2.1 q.2.2.2 e0 := by
  obtain ⟨e0, h1⟩ := zi_ad_own hr had
  obtain ⟨x, h2, h3⟩ := zi_F2_get h4 hA
  rw [h1] at h2
  cases h2
  exact ⟨e0, h1, h3⟩
theorem zi_go_get (C : zi_Cx p R s m args meth c B0 D dA adK adV b M d sl) {ci k i : Nat} (hd : decode M.2.1 pc = .ok (.getfield i, 3)) (ho : ci ≠ 100 → ∃ q, zi_Fs[ci]? = some q ∧ k < q.2.length ∧ Cond.fieldLink M.1.cls i (zi_Tf q k).1 (zi_Tf q k).2.1 (zi_Tf q k).2.2.1 ∈ zi_gd) (hs : ci = 100 → (k = 0 → Cond.fieldLink M.1.cls i "java/lang/String" "value" "[B" ∈ zi_gd) ∧ (k = 1 → Cond.fieldLink M.1.cls i "java/lang/String" "coder" "B" ∈ zi_gd)) (h : zi_get pc 3 al st A nc ns ci k = some (.inl g)) : zi_Go p l e R s m args below meth c B0 D dA adK adV b M.2.2.1 (pc, al, st, A, nc, ns) g := by
  obtain ⟨⟨hx, hb, hml, hret, hown, hts, hlk, hnm⟩, hX, -, -⟩ := C
  unfold zi_get at h
  split at h
  · rename_i r rest
    cases hb1 : Nat.ble 10 r with
    | true =>
      rw [hb1] at h
      have hr := Nat.le_of_ble_eq_true hb1
      simp only [cond_true] at h
      split at h
      · rename_i q hA
        cases hb2 : Nat.beq q.1 ci with
        | false => rw [hb2] at h; cases h
        | true =>
          rw [hb2] at h
          have e1 := Nat.eq_of_beq_eq_true hb2
          simp only [cond_true] at h
          split at h
          · rename_i v hv
            cases h
            intro Q ws H locs ls sc hS _ _ kk
            obtain ⟨h1, h2, h3, h4, h5, h6⟩ := hS
            obtain ⟨w1, sc, rfl, ⟨a, had, rfl⟩, k6⟩ := zi_F2_cons h6
            obtain ⟨vs, hvs, hF⟩ := zi_cell_obj h4 hr had hA
            obtain ⟨w, hw, hvr⟩ := zi_F2_get hF hv
            have hci : ci ≠ 100 := by
              intro z
              have hc1 := zi_F2_get h4 hA
              have hP1 := h1 (r - 10) _ hvs
              obtain ⟨rr, hrr, -⟩ := hP1
              rw [show q.1 = 100 from e1.trans z] at hrr
              rw [zi_cl_none] at hrr
              cases hrr
            obtain ⟨qq, hq1, hq2, hq3⟩ := ho hci
            rw [e1] at hvs
            exact va_get hx hb hts (zi_cl_ok hq1).1 hown hX.1 h1 (r - 10) hvs (zi_cl_at hq1) k hq2 (hts _ hq3) (fun x hx => hx) hw hd (kk ws H locs ls _ (zi_ex_refl ws) ⟨h1, h2, h3, h4, h5, ⟨hvr, k6⟩⟩)
          · cases h
      · cases h
    | false =>
      rw [hb1] at h
      simp only [cond_false] at h
      cases hb2 : (Nat.ble (r + 1) 4 && Nat.beq ci 100) with
      | false => rw [hb2] at h; cases h
      | true =>
        rw [hb2] at h
        rw [Bool.and_eq_true] at hb2
        have hr := Nat.le_of_ble_eq_true hb2.1
        obtain ⟨hs0, hs1⟩ := hs (Nat.eq_of_beq_eq_true hb2.2)
        simp only [cond_true] at h
        cases hb3 : Nat.beq k 0 with
        | true =>
          rw [hb3] at h
          cases h
          intro Q ws H locs ls sc hS _ _ kk
          obtain ⟨h1, h2, h3, h4, h5, h6⟩ := hS
          obtain ⟨w1, sc, rfl, ⟨a, had, rfl⟩, k6⟩ := zi_F2_cons h6
          have ha := zi_ad_str (by omega) had
          subst ha
          exact vk_getf hx hb (hX.2.1.1 r (by omega)).2.2.1 h3 hown (hts _ (hs0 (Nat.eq_of_beq_eq_true hb3))) (fun x hx => hx) hd (kk ws H locs ls _ (zi_ex_refl ws) ⟨h1, h2, h3, h4, h5, ⟨⟨adV r, by
            unfold zi_ad
            rw [if_neg (by omega), if_pos (by omega), Nat.add_sub_cancel_left], rfl⟩, k6⟩⟩)
        | false =>
          rw [hb3] at h
          simp only [cond_false] at h
          cases hb4 : Nat.beq k 1 with
          | false => rw [hb4] at h; cases h
          | true =>
            rw [hb4] at h
            cases h
            intro Q ws H locs ls sc hS _ _ kk
            obtain ⟨h1, h2, h3, h4, h5, h6⟩ := hS
            obtain ⟨w1, sc, rfl, ⟨a, had, rfl⟩, k6⟩ := zi_F2_cons h6
            have ha := zi_ad_str (by omega) had
            subst ha
            exact vk_getf hx hb (hX.2.1.1 r (by omega)).2.1 h3 hown (hts _ (hs1 (Nat.eq_of_beq_eq_true hb4))) (fun x hx => hx) hd (kk ws H locs ls _ (zi_ex_refl ws) ⟨h1, h2, h3, h4, h5, ⟨rfl, k6⟩⟩)
  · cases h
end ZH
