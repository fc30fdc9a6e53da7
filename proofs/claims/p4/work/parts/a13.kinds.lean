/-! The kinds of calls. -/
section ZK
variable {p : Program} {l : Launch} {e : Env} {R : Room} {s : State} {m : MethodId} {args : Array Value} {below : List Frame} {meth : Method} {c : Code} {B0 : Nat} {D : va_G} {dA : Nat → ClassId} {adK adV : Nat → Nat} {b : Nat} {M : zi_M} {d : Nat} {sl : List zi_V}
variable {pc : Nat} {al : List (Nat × zi_V)} {st : List zi_V} {A : List zi_C} {nc ns : Nat} {g : zi_F} {Ms : List zi_M} {call : zi_K}
theorem zi_go_invS (C : zi_Cx p R s m args meth c B0 D dA adK adV b M d sl) (hct : zi_Ct l Ms d call) {mi k i : Nat} (hd : decode M.2.1 pc = .ok (.invokestatic i, 3)) (ho : ∀ N, Ms[mi]? = some N → zi_okM N ∧ (Cond.methodLink M.1.cls i N.1 ∈ zi_gd ∨ (M.1.cls, i, N.1, "AgreeTold") ∈ zi_nest) ∧ Cond.static N.1 ∈ zi_gd ∧ (parseMethodDescriptor N.1.desc).map (fun d => d.parameters.length) = some k) (h : zi_inv call pc 3 al st A nc ns mi k = some (.inl g)) : zi_Go p l e R s m args below meth c B0 D dA adK adV b M.2.2.1 (pc, al, st, A, nc, ns) g := by
  obtain ⟨⟨hx, hb, hml, hret, hown, hts, hlk, hnm⟩, hX, hR, hscr⟩ := C
  refine zi_go_inv hct (fun N hN rv A' mc ms ws H locs ls vs rest hM h1 h2 h3 h4 hF hlen hsz hcat hc1 hc2 => ?_) h
  obtain ⟨o1, o2, o3, o4⟩ := ho N hN
  rcases o2 with o2 | o2
  · refine va_runS (Ts := zi_gd) ⟨hx, hb, hml, hown, hts⟩ hM (va_cwS k hts (zi_goodL ?_) rfl rfl rfl ⟨o1.2.2.1.1, o1.2.2.1.2, o4⟩ (zi_rm o1 hR)) (zi_pre hX h1 h2 h3) rfl hlen hsz rfl (lv_room hcat) hd ⟨hc1, hc2⟩
    intro w hw
    rcases List.mem_append.mp hw with z | z
    · rcases List.mem_cons.mp z with z | z
      · rw [z]; exact o2
      · rcases List.mem_cons.mp z with z | z
        · rw [z]; exact o3
        · rcases List.mem_cons.mp z with z | z
          · rw [z]; exact o1.2.1
          · cases z
    · exact (zi_good o1 w z).1
  · exact va_runSN (Ts := zi_gd) ⟨hx, hb, hml, hown, hts⟩ hM ⟨va_cnB k hts (zi_good o1) rfl rfl rfl (hX.2.2.2.2.2.1 _ o2) (hts _ o1.2.1) ⟨o1.2.2.1.1, o1.2.2.1.2, o4⟩ (zi_rm o1 hR), hts _ o3, trivial⟩ (zi_pre hX h1 h2 h3) rfl hlen hsz rfl (lv_room hcat) hd ⟨hc1, hc2⟩
theorem zi_take_last {k r : Nat} (hk : 1 ≤ k) (hs : k ≤ st.length) (h : st[k - 1]? = some (.inl (.ref r))) : ∃ as : List zi_V, (st.take k).reverse = .inl (.ref r) :: as := by
  obtain ⟨k, rfl⟩ : ∃ j, k = j + 1 := ⟨k - 1, by omega⟩
  have hl : k < st.length := by omega
  refine ⟨(st.take k).reverse, ?_⟩
  have h : st[k]? = some (.inl (.ref r)) := h
  rw [List.take_add_one, h]
  simp
theorem zi_go_invI (C : zi_Cx p R s m args meth c B0 D dA adK adV b M d sl) (hct : zi_Ct l Ms d call) {mi k i r : Nat} (hd : decode M.2.1 pc = .ok (.invokespecial i, 3)) (ho : ∀ N, Ms[mi]? = some N → zi_okM N ∧ (Cond.methodLink M.1.cls i N.1 ∈ zi_gd ∨ (M.1.cls, i, N.1, "AgreeTold") ∈ zi_nest) ∧ Cond.instanceMethod N.1 ∈ zi_gd ∧ N.1.name = "<init>" ∧ N.2.2.2.1 = none ∧ (parseMethodDescriptor N.1.desc).map (fun d => d.parameters.length + 1) = some k) (hk : 1 ≤ k) (hrec : st[k - 1]? = some (.inl (.ref r))) (h : zi_inv call pc 3 al st A nc ns mi k = some (.inl g)) : zi_Go p l e R s m args below meth c B0 D dA adK adV b M.2.2.1 (pc, al, st, A, nc, ns) g := by
  obtain ⟨⟨hx, hb, hml, hret, hown, hts, hlk, hnm⟩, hX, hR, hscr⟩ := C
  have hst : k ≤ st.length := by
    have := (List.getElem?_eq_some_iff.mp hrec).1
    omega
  obtain ⟨as, has⟩ := zi_take_last hk hst hrec
  refine zi_go_inv hct (fun N hN rv A' mc ms ws H locs ls vs rest hM h1 h2 h3 h4 hF hlen hsz hcat hc1 hc2 => ?_) h
  obtain ⟨o1, o2, o3, o4, o5, o6⟩ := ho N hN
  rw [has] at hF
  obtain ⟨w, vs, rfl, ⟨a, -, rfl⟩, -⟩ := zi_F2_cons hF
  have hlen : vs.length + 1 = k := hlen
  have o6' : (parseMethodDescriptor N.1.desc).map (fun d => d.parameters.length) = some (k - 1) := by
    cases hp : parseMethodDescriptor N.1.desc with
    | none => rw [hp] at o6; cases o6
    | some sg =>
      rw [hp] at o6
      have : sg.parameters.length + 1 = k := Option.some.inj o6
      show some sg.parameters.length = some (k - 1)
      rw [← this]
      rfl
  have hst2 : (Value.ref a :: vs).reverse ++ rest = vs.reverse ++ .ref a :: rest := by simp
  rw [hst2]
  obtain ⟨ny, nb, nL, nr, nt⟩ := N
  have o5 : nr = none := o5
  subst o5
  rcases o2 with o2 | o2
  · exact va_runI (Ts := zi_gd) ⟨hx, hb, hml, hown, hts⟩ hM (cwI (k - 1) hts (zi_good o1) rfl rfl rfl (hts _ o1.2.1) (hts _ o2) (hts _ o3) o4 ⟨o1.2.2.1.1, o1.2.2.1.2, o6'⟩ (zi_rm o1 hR)) (zi_pre hX h1 h2 h3) rfl (by omega) hsz rfl (lv_room hcat) hd ⟨hc1, hc2⟩
  · exact va_runIN (Ts := zi_gd) ⟨hx, hb, hml, hown, hts⟩ hM ⟨va_cnB (k - 1) hts (zi_good o1) rfl rfl rfl (hX.2.2.2.2.2.1 _ o2) (hts _ o1.2.1) ⟨o1.2.2.1.1, o1.2.2.1.2, o6'⟩ (zi_rm o1 hR), o4, hts _ o3⟩ (zi_pre hX h1 h2 h3) rfl (by omega) hsz rfl (lv_room hcat) hd ⟨hc1, hc2⟩
theorem zi_go_invV (C : zi_Cx p R s m args meth c B0 D dA adK adV b M d sl) (hct : zi_Ct l Ms d call) {mi k i ci : Nat} (hd : decode M.2.1 pc = .ok (.invokevirtual i, 3)) (ho : ∀ N, Ms[mi]? = some N → zi_okM N ∧ Cond.methodLink M.1.cls i N.1 ∈ zi_gd ∧ Cond.instanceMethod N.1 ∈ zi_gd ∧ Cond.selects N.1.cls N.1 N.1 ∈ zi_gd ∧ ((ci = 100 ∧ N.1.cls = "java/lang/String") ∨ (ci ≠ 100 ∧ ∃ q, zi_Fs[ci]? = some q ∧ q.1 = N.1.cls)) ∧ (parseMethodDescriptor N.1.desc).map (fun d => d.parameters.length + 1) = some k) (hk : 1 ≤ k) (hrec : zi_rcv A ci st[k - 1]? = true) (h : zi_inv call pc 3 al st A nc ns mi k = some (.inl g)) : zi_Go p l e R s m args below meth c B0 D dA adK adV b M.2.2.1 (pc, al, st, A, nc, ns) g := by
  obtain ⟨⟨hx, hb, hml, hret, hown, hts, hlk, hnm⟩, hX, hR, hscr⟩ := C
  unfold zi_rcv at hrec
  split at hrec
  · rename_i r hr
    have hst : k ≤ st.length := by
      have := (List.getElem?_eq_some_iff.mp hr).1
      omega
    obtain ⟨as, has⟩ := zi_take_last hk hst hr
    refine zi_go_inv hct (fun N hN rv A' mc ms ws H locs ls vs rest hM h1 h2 h3 h4 hF hlen hsz hcat hc1 hc2 => ?_) h
    obtain ⟨o1, o2, o3, o4, o5, o6⟩ := ho N hN
    rw [has] at hF
    obtain ⟨w, vs, rfl, ⟨a, had, rfl⟩, -⟩ := zi_F2_cons hF
    have hlen : vs.length + 1 = k := hlen
    have o6' : (parseMethodDescriptor N.1.desc).map (fun d => d.parameters.length) = some (k - 1) := by
      cases hp : parseMethodDescriptor N.1.desc with
      | none => rw [hp] at o6; cases o6
      | some sg =>
        rw [hp] at o6
        have : sg.parameters.length + 1 = k := Option.some.inj o6
        show some sg.parameters.length = some (k - 1)
        rw [← this]
        rfl
    have hst2 : (Value.ref a :: vs).reverse ++ rest = vs.reverse ++ .ref a :: rest := by simp
    rw [hst2]
    have hrcv : ∃ cellB : Cell, H[a]? = some cellB ∧ cellB.vm.isStatics = false ∧ s.vm.findClass N.1.cls = some cellB.cls := by
      cases hb1 : Nat.ble 10 r with
      | true =>
        rw [hb1] at hrec
        have hr10 := Nat.le_of_ble_eq_true hb1
        simp only [cond_true] at hrec
        split at hrec
        · rename_i q hA
          have e1 := Nat.eq_of_beq_eq_true hrec
          obtain ⟨vv, hvv, -⟩ := zi_cell_obj h4 hr10 had hA
          rw [e1] at hvv
          rcases o5 with ⟨z, -⟩ | ⟨-, qq, z1, z2⟩
          · have hP1 := h1 _ _ hvv
            obtain ⟨rr, hrr, -⟩ := hP1
            rw [z, zi_cl_none] at hrr
            cases hrr
          · have := va_recv hX.1 h1 (zi_cl_at z1) hvv
            rw [← z2]
            exact this
        · cases hrec
      | false =>
        rw [hb1] at hrec
        simp only [cond_false, Bool.and_eq_true] at hrec
        have hr4 := Nat.le_of_ble_eq_true hrec.1
        have e1 := Nat.eq_of_beq_eq_true hrec.2
        rcases o5 with ⟨-, z⟩ | ⟨z, -⟩
        · have ha := zi_ad_str (by omega) had
          subst ha
          rw [z]
          exact vk_recv hX.2.1 (by omega) h3
        · exact absurd e1 z
    refine va_runV (Ts := zi_gd) (C := N.1.cls) ⟨hx, hb, hml, hown, hts⟩ hM (cwV (k - 1) hts (zi_goodL ?_) rfl rfl rfl ⟨rfl, o1.2.2.1.1, o1.2.2.1.2, o6'⟩ (zi_rm o1 hR)) ⟨(zi_pre hX h1 h2 h3).1, hrcv, (zi_pre hX h1 h2 h3).2⟩ rfl (by omega) hsz rfl (lv_room hcat) hd ⟨hc1, hc2⟩
    intro w hw
    rcases List.mem_append.mp hw with z | z
    · rcases List.mem_cons.mp z with z | z
      · rw [z]; exact o2
      · rcases List.mem_cons.mp z with z | z
        · rw [z]; exact o3
        · rcases List.mem_cons.mp z with z | z
          · rw [z]; exact o4
          · rcases List.mem_cons.mp z with z | z
            · rw [z]; exact o1.2.1
            · cases z
    · exact (zi_good o1 w z).1
  · cases hrec
theorem zi_go_obj (C : zi_Cx p R s m args meth c B0 D dA adK adV b M d sl) {i : Nat} (hd : decode M.2.1 pc = .ok (.invokespecial i, 3)) (o1 : Cond.methodLink M.1.cls i objectInit ∈ zi_gd) (o2 : Cond.instanceMethod objectInit ∈ zi_gd) (o3 : Cond.code objectInit ⟨#[0xb1]⟩ 1 none ∈ zi_gd) (h : zi_obj pc 3 al st A nc ns = some (.inl g)) : zi_Go p l e R s m args below meth c B0 D dA adK adV b M.2.2.1 (pc, al, st, A, nc, ns) g := by
  obtain ⟨⟨hx, hb, hml, hret, hown, hts, hlk, hnm⟩, hX, hR, hscr⟩ := C
  unfold zi_obj at h
  split at h
  · rename_i i0 r
    cases hb1 : Nat.ble (zi_cats r) 8 with
    | false => rw [hb1] at h; cases h
    | true =>
      rw [hb1] at h
      have h8 := Nat.le_of_ble_eq_true hb1
      cases h
      intro Q ws H locs ls sc hS _ _ kk
      obtain ⟨h1, h2, h3, h4, ⟨lv, h5, h7⟩, h6⟩ := hS
      obtain ⟨w, sc, rfl, ⟨a, -, rfl⟩, k6⟩ := zi_F2_cons h6
      have hcat := zi_cats_ok k6
      refine W.objInit (rest := sc) hx hb hown (hts _ o1) (hts _ o2) (hts _ o3) rfl (by rw [hml]; exact h5.1) rfl hd (by omega) ?_ (kk ws H locs ls sc (zi_ex_refl ws) ⟨h1, h2, h3, h4, ⟨lv, h5, h7⟩, k6⟩)
      show 2 * 0 + _ + 12 ≤ _
      rw [hcat]
      omega
  · cases h
end ZK
