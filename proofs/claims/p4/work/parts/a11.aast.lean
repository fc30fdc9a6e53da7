section ZH
variable {p : Program} {l : Launch} {e : Env} {R : Room} {s : State} {m : MethodId} {args : Array Value} {below : List Frame} {meth : Method} {c : Code} {B0 : Nat} {D : va_G} {dA : Nat → ClassId} {adK adV : Nat → Nat} {b : Nat} {M : zi_M} {d : Nat} {sl : List zi_V}
variable {pc : Nat} {al : List (Nat × zi_V)} {st : List zi_V} {A : List zi_C} {nc ns : Nat} {g : zi_F}
theorem zi_go_aast (C : zi_Cx p R s m args meth c B0 D dA adK adV b M d sl) (hd : decode M.2.1 pc = .ok (.aastore, 1)) (h : zi_aas pc 1 al st A nc ns = some (.inl g)) : zi_Go p l e R s m args below meth c B0 D dA adK adV b M.2.2.1 (pc, al, st, A, nc, ns) g := by
  obtain ⟨⟨hx, hb, hml, hret, hown, hts, hlk, hnm⟩, hX, hR, hscr⟩ := C
  unfold zi_aas at h
  split at h
  · rename_i v x r rest
    cases hb1 : Nat.ble 10 r with
    | false => rw [hb1] at h; cases h
    | true =>
      rw [hb1] at h
      have hr := Nat.le_of_ble_eq_true hb1
      simp only [cond_true] at h
      split at h
      · rename_i q hA
        cases hb2 : (Nat.ble 4 q.1 && Nat.ble q.1 6 && zi_in x q.2.1 && zi_aso A q.1 v) with
        | false => rw [hb2] at h; cases h
        | true =>
          rw [hb2] at h
          rw [Bool.and_eq_true, Bool.and_eq_true, Bool.and_eq_true] at hb2
          have g4 := Nat.le_of_ble_eq_true hb2.1.1.1
          have g6 := Nat.le_of_ble_eq_true hb2.1.1.2
          have hin := zi_in_ok hb2.1.2
          have hso := hb2.2
          cases h
          intro Q ws H locs ls sc hS hc1 hc2 kk
          obtain ⟨h1, h2, h3, h4, ⟨lv, h5, h7⟩, h6⟩ := hS
          obtain ⟨w, sc, rfl, hw, k4⟩ := zi_F2_cons h6
          obtain ⟨w0, sc, rfl, hw0, k5⟩ := zi_F2_cons k4
          have hw0 : w0 = .int x := hw0
          subst hw0
          obtain ⟨w1, sc, rfl, ⟨a, had, rfl⟩, k6⟩ := zi_F2_cons k5
          obtain ⟨e0, he0, har⟩ := zi_cell_arr h4 hr had hA
          have ek : zi_tk q.1 = 2 ∧ ∃ Cn, zi_ft q.1 = .object Cn := by
            rcases (show q.1 = 4 ∨ q.1 = 5 ∨ q.1 = 6 by omega) with z | z | z <;> (rw [z]; exact ⟨rfl, _, rfl⟩)
          obtain ⟨ek, Cn, hCn⟩ := ek
          unfold zi_ar at har
          rw [ek] at har
          obtain ⟨f, rfl, hf⟩ := har
          have fin : ∀ (y : Option Nat), zi_vr (zi_ad adK adV b ws) v (va_rf y) → ∀ (H1 : Heap) (locs1 : List Loc), va_P D zi_cl (ws.set (r - 10) (a, .inl (dA q.1, q.2.1, .inr (.inr (.inr (.inr (va_up f x.toNatClampNeg y))))))) H1 → va_D (fun q => B0 ≤ q) (ws.set (r - 10) (a, .inl (dA q.1, q.2.1, .inr (.inr (.inr (.inr (va_up f x.toNatClampNeg y))))))) → va_S (fun q => B0 ≤ q) s.heap H1 locs1 → zi_W p l e R s m args below meth c Q nc ns (pc + 1) H1 locs1 ls sc := by
            intro y hy H1 locs1 p1 p2 p3
            refine kk _ H1 locs1 ls sc (zi_ex_set he0) (zi_st_set he0 h4 h5 h7 k6 (?_ : zi_ar _ _ _ _ _ _ _) p1 p2 p3)
            unfold zi_ar
            rw [ek]
            refine ⟨_, rfl, fun j hj => ?_⟩
            refine zi_look_up (P := fun j z => zi_vr (zi_ad adK adV b ws) z (va_rf (va_up f x.toNatClampNeg y j))) (fun ej => ?_) (fun ej => ?_)
            · have e2 : va_up f x.toNatClampNeg y j = y := by unfold va_up; rw [if_pos ej]
              try dsimp only
              rw [e2]
              exact hy
            · have e2 : va_up f x.toNatClampNeg y j = f j := by unfold va_up; rw [if_neg ej]
              try dsimp only
              rw [e2]
              exact hf j hj
          unfold zi_aso at hso
          split at hso
          · have hw : w = .null := hw
            subst hw
            have hty : (zi_tys dA)[q.1]? = some (dA q.1, .object Cn) := by rw [zi_tys_at dA (by omega), hCn]
            have hz : zi_vr (zi_ad adK adV b ws) (.inl .null) (va_rf none) := rfl
            have fin2 := fin none hz
            refine va_astqN (C := Cn) (f := f) hx hb hX.1 h1 h2 h3 (r - 10) q.1 he0 hty hin hd ?_
            exact fin2
          · rename_i r2
            rw [Bool.and_eq_true] at hso
            have hr2 := Nat.le_of_ble_eq_true hso.1
            have hso2 := hso.2
            split at hso2
            · rename_i q2 hA2
              have hz := of_decide_eq_true hso2
              have hw' := hw
              obtain ⟨a2, had2, rfl⟩ := hw
              obtain ⟨vs, hvs, -⟩ := zi_cell_obj h4 hr2 had2 hA2
              cases hq3 : zi_Fs[q2.1]? with
              | none => rw [hq3] at hz; cases hz
              | some q3 =>
                rw [hq3] at hz
                have hz : zi_ft q.1 = .object q3.1 := Option.some.inj hz
                obtain ⟨q4, hq4, e4⟩ : ∃ q4 : vw_C, zi_cl[q2.1]? = some q4 ∧ q4.1 = q3.1 := ⟨_, zi_cl_at hq3, rfl⟩
                have hty : (zi_tys dA)[q.1]? = some (dA q.1, .object q4.1) := by rw [zi_tys_at dA (by omega), hz, e4]
                have fin2 := fin (some a2) hw'
                exact va_astq (f := f) (v := a2) (vs := vs) hx hb hX.1 h1 h2 h3 (r - 10) q.1 (r2 - 10) q2.1 (r := q4) he0 hty hvs hq4 hin hd fin2
            · cases hso2
          · cases hso
      · cases h
  · cases h
end ZH
