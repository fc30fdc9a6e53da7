/-! first: its throw, caught by the law's own method; its return. -/
theorem zi_castr {args : Array Value} {s : State} {C : String} (h : (Cond.initialized C).before args s = true) : (Cond.castable C C).before args s = true := by
  simp only [Cond.before, Cond.holds, Cond.value] at h ⊢
  cases h1 : s.vm.findClass C with
  | none => simp [h1] at h
  | some c => simp [va_asg]
theorem zi_atW : zi_mem (.classLink "AgreeTold" 341 zi_NS) = true ∧ zi_mem (.initialized zi_NS) = true := ⟨by decide +kernel, by decide +kernel⟩
theorem zi_mem_ot {w : Cond} (h : zi_mem w = true) : vx_ot w = true := by
  unfold zi_mem at h
  rw [Bool.and_eq_true] at h
  unfold vx_ot
  rw [h.2, Bool.or_true]
theorem zi_f13 : decode zi_mg.2.1 13 = .ok (.new 341, 3) := by decide +kernel
theorem zi_f16 : decode zi_mg.2.1 16 = .ok (.dup, 1) := by decide +kernel
theorem zi_f17 : decode zi_mg.2.1 17 = .ok (.ldc_w 343, 3) := by decide +kernel
theorem zi_f20 : decode zi_mg.2.1 20 = .ok (.invokespecial 345, 3) := by decide +kernel
theorem zi_f23 : decode zi_mg.2.1 23 = .ok (.athrow, 1) := by decide +kernel
theorem zi_l7 : decode zi_mlf.2.1 7 = .ok (.invokevirtual 7, 3) := by decide +kernel
theorem zi_l15 : decode zi_mlf.2.1 15 = .ok (.astore 5, 2) := by decide +kernel
theorem zi_l17 : decode zi_mlf.2.1 17 = .ok (.iconst 1, 1) := by decide +kernel
theorem zi_l18 : decode zi_mlf.2.1 18 = .ok (.ireturn, 1) := by decide +kernel
theorem zi_d1016 : decode code 1016 = .ok (.invokestatic 118, 3) := by decide +kernel
def zi_dcl : List MethodName := [Bundle.initS "java/lang/RuntimeException", Bundle.initS "java/lang/Exception", Bundle.initS Bundle.tN]
theorem zi_Dc_mv {x : MethodName} {u U : State} (hvm : u.vm.Alike U.vm) (h : (Cond.declares x).before #[] u = true) : (Cond.declares x).before #[] U = true := by
  have h1 : (Cond.declares x).before #[] (u.setVm U.vm) = true := by
    rw [Cond.declares_setVm hvm]
    exact h
  exact va_tabs rfl (rfl : (u.setVm U.vm).vm = U.vm) h1
def zi_Y (B0 : Nat) (U : State) : Prop := (∀ x ∈ zi_dcl, (Cond.declares x).before #[] U = true) ∧ vx_Zq Bundle.tN "UNASSIGNED_STACK" Bundle.steD (fun q => B0 ≤ q) U U.heap ∧ vx_Zq Bundle.tN "SUPPRESSED_SENTINEL" Bundle.listD (fun q => B0 ≤ q) U U.heap
theorem zi_Y_mv {B0 : Nat} {s U : State} {H : Heap} {locs : List Loc} (h : zi_Y B0 s) (hW : s.WarmedH U.vm) (hU : U.heap = H) (hS : va_S (fun q => B0 ≤ q) s.heap H locs) : zi_Y B0 U := by
  subst hU
  exact ⟨fun x hx => zi_Dc_mv hW.alike (h.1 x hx), vx_Zq.moved hW.alike (h.2.1.kept hS.2.1), vx_Zq.moved hW.alike (h.2.2.kept hS.2.1)⟩
theorem zi_Y_cl {B0 : Nat} {U : State} {g : JFrame} {mk : MethodId} {a : Array Value} (h : zi_Y B0 U) : zi_Y B0 (U.calling g mk a) := zi_Y_mv (locs := []) h (U := U.calling g mk a) (State.WarmedH.refl U) rfl va_S.rf
def zi_Pc2 (B0 : Nat) (D : va_G) (dA : Nat → ClassId) (adK adV : Nat → Nat) (ws : va_W) (vs : List Value) : Array Value → State → Prop := va_Pc vs (fun U => (zi_X B0 D dA adK adV U ∧ zi_Y B0 U) ∧ va_P D zi_cl ws U.heap ∧ va_D (fun q => B0 ≤ q) ws)
theorem zi_pre2 {B0 : Nat} {D : va_G} {dA : Nat → ClassId} {adK adV : Nat → Nat} {s : State} {ws : va_W} {H : Heap} {locs : List Loc} {vs : List Value} (hX : zi_X B0 D dA adK adV s) (hY : zi_Y B0 s) (h1 : va_P D zi_cl ws H) (h2 : va_D (fun q => B0 ≤ q) ws) (h3 : va_S (fun q => B0 ≤ q) s.heap H locs) : FrameBlind (zi_Pc2 B0 D dA adK adV ws vs) ∧ ∀ U : State, U.heap = H → s.WarmedH U.vm → zi_Pc2 B0 D dA adK adV ws vs vs.toArray U :=
  ⟨fun a U g mk q => ⟨q.1, ⟨zi_X_cl q.2.1.1, zi_Y_cl q.2.1.2⟩, q.2.2⟩, fun U hU hW => ⟨rfl, ⟨zi_X_mv hX hW hU h3, zi_Y_mv hY hW hU h3⟩, by rw [hU]; exact h1, h2⟩⟩
def zi_px (dA : Nat → ClassId) (adK adV : Nat → Nat) (b : Nat) (ws : va_W) (A : List zi_C) (ws' : va_W) : Prop := zi_ex ws ws' ∧ zi_F2 (zi_cr (zi_ad adK adV b ws') dA) A ws'
def zi_bx (B0 : Nat) (D : va_G) (E : String) (ws' : va_W) (t : State) : Prop := E = zi_NS ∧ va_P D zi_cl ws' t.heap ∧ va_D (fun q => B0 ≤ q) ws'
theorem zi_first {l : Launch} (hst : l.stackTraces = false) {B0 : Nat} {D : va_G} {dA : Nat → ClassId} {adK adV : Nat → Nat} {b : Nat} {ws : va_W} {vs : List Value} {A A' : List zi_C} {zal : List (Nat × zi_V)} {n0 k0 : Nat} {x1 x2 x3 : Int32} (hrun : zi_run (zi_ev zi_Ms n0 60) [] zi_mg k0 (0, zi_ent 0 [.inl (.ref 10), .inl (.int x1), .inl (.int x2), .inl (.int x3)], [], A, 0, 0) = some (13, zal, [], A', 0, 0)) (hav : zi_F2 (zi_vr (zi_ad adK adV b ws)) [.inl (.ref 10), .inl (.int x1), .inl (.int x2), .inl (.int x3)] vs) (hA : zi_F2 (zi_cr (zi_ad adK adV b ws) dA) A ws) :
    vx_Met l zi_mg.1 (zi_ws zi_mg) (zi_room 70 1 6) (zi_Pc2 B0 D dA adK adV ws vs) (va_Qi (S := Unit) (fun _ _ => False) (fun _ _ => True) (fun q => B0 ≤ q)) (vx_X (zi_px dA adK adV b ws A') (zi_bx B0 D) (fun q => B0 ≤ q)) 1 6 (fun q => B0 ≤ q) := by
  refine vx_ofW (cc := zi_mg.2.1) (maxL := zi_mg.2.2.1) (ret := zi_mg.2.2.2.1) (by decide) rfl ?_
  intro p e s m args below meth c s₁ B hml htab hv
  obtain ⟨rfl, ⟨hX, hY⟩, hP, hD⟩ := hv
  have hts := atoms_spec (ws := zi_ws zi_mg) B.pre
  have hts' : ∀ w ∈ zi_gd, w.before vs.toArray s = true := fun w hw => hts w (List.mem_cons_of_mem _ hw)
  have hown : s.vm.findClass "AgreeTold" = some m.cls := findClass_of_methodNamed B.named
  have C : zi_Cx p (headSpec (zi_ws zi_mg) (zi_room 70 1 6)).room s m vs.toArray meth c B0 D dA adK adV b zi_mg 60 [] := ⟨⟨B.exec, B.bytes, hml, B.returns, hown, hts', B.notSynchronized, (name_of_methodNamed B.named B.method).1⟩, hX, ⟨Nat.le_of_ble_eq_true rfl, Nat.le_of_ble_eq_true rfl⟩, Or.inl rfl⟩
  have hcat := zi_cats_ok hav
  have hc4 : zi_cats [.inl (.ref 10), .inl (.int x1), .inl (.int x2), .inl (.int x3)] = 4 := rfl
  have hl := lv_entry vs (n := zi_mg.2.2.1) (by rw [zi_sl_len, hcat, hc4]; exact Nat.le_of_ble_eq_true rfl)
  rw [lg_entry_eq]
  refine (zi_run_go (l := l) (e := e) (below := below) C (zi_ev_ok zi_Ms_ok n0 60) (fun mi N hN => (zi_Ms_ok mi N hN).1) zi_mg_ok.2 k0 hrun).1 _ ws s.heap [] _ [] ⟨hP, hD, va_S.rf, hA, ⟨_, hl, zi_ent_ok hav 0⟩, trivial⟩ (Nat.zero_le _) (Nat.zero_le _) (fun ws' H locs ls sc hex hS => ?_)
  obtain ⟨h1, h2, h3, h4, ⟨lv, h5, h7⟩, h6⟩ := hS
  have e0 := zi_F2_nil h6
  subst e0
  have hat : ∀ w ∈ zi_at13, w.before vs.toArray s = true := fun w hw => by
    have hz := List.all_eq_true.mp zi_atS w hw
    rw [Bool.or_eq_true, Bool.or_eq_true] at hz
    rcases hz with (hz | hz) | hz
    · exact hts' w (zi_mem_ok hz)
    · rw [of_decide_eq_true hz]
      exact zi_castr (hts' _ (zi_mem_ok zi_atW.2))
    · obtain ⟨x, hx1, hx2⟩ := List.any_eq_true.mp hz
      rw [of_decide_eq_true hx2]
      exact va_tabs rfl rfl (hY.1 x hx1)
  refine zi_throwSW (rest := []) (Y := "java/lang/RuntimeException") (r := ["java/lang/Exception"]) (ix := 13) (bs := prog_31_method_4_code) (ic := 345) (cls := zi_NS) (text := "no such word") (sa := adK 3) (A := fun q => B0 ≤ q) B.exec B.bytes hst zi_b13.1 zi_b13.2.1 zi_b13.2.2.1 zi_b13.2.2.2 hown (by decide +kernel) (by decide +kernel) (by decide +kernel) (hts' _ (zi_mem_ok zi_atW.1)) (hts' _ (zi_mem_ok zi_atW.2)) (hX.2.2.1 3 ("AgreeTold", 343, "no such word") rfl) hat ?_ hY.2.1 hY.2.2 h3 (by rw [hml]; exact h5.1) zi_f13 zi_f16 zi_f17 zi_f20 zi_f23 (fun x hx => (htab x hx).elim) (Nat.le_of_ble_eq_true rfl) (Nat.le_of_ble_eq_true rfl) (Nat.le_refl _) (Nat.le_refl _) B.notSynchronized (fun t hal hsz hk => ?_) h3.2.2 (Nat.le_refl _) (Nat.le_refl _)
  · intro w hw
    rcases List.mem_cons.mp hw with z | z
    · rw [z]; exact zi_mem_ot zi_atW.1
    · rcases List.mem_cons.mp z with z | z
      · rw [z]; exact zi_mem_ot zi_atW.2
      · exact List.all_eq_true.mp zi_atO w z
  · refine ⟨ws', ⟨hex, h4⟩, ⟨rfl, h1.kept (fun k q hq => hk q.1 ((h1 k q hq).lt)), h2⟩, Nat.le_trans h3.1 hsz, fun q hq1 hq2 => ?_⟩
    rw [hk q (Nat.lt_of_lt_of_le hq1 h3.1)]
    exact h3.2.1 q hq1 hq2
def zi_wlf : List Cond := Cond.codeWith zi_mlf.1 zi_mlf.2.1 6 (some .int) [(0, 12, 15, 13)] :: zi_gd
/-- the words of the calls around it -/
theorem zi_lfw : zi_mem (.methodLink "AgreeToldLaw" 7 zi_mg.1) = true ∧ zi_mem (.instanceMethod zi_mg.1) = true ∧ zi_mem (.selects "AgreeTold" zi_mg.1 zi_mg.1) = true ∧ zi_mem (.initialized "AgreeTold") = true ∧ zi_mem (.classLink "AgreeToldLaw" 13 zi_NS) = true ∧ zi_mem (.initialized zi_NS) = true ∧ zi_mem (.methodLink "AgreeToldLaw" 118 zi_mlf.1) = true ∧ zi_mem (.static zi_mlf.1) = true ∧ zi_mem (.initialized "AgreeToldLaw") = true ∧ zi_mem (.codeWith zi_mlf.1 zi_mlf.2.1 6 (some .int) [(0, 12, 15, 13)]) = true := ⟨by decide +kernel, by decide +kernel, by decide +kernel, by decide +kernel, by decide +kernel, by decide +kernel, by decide +kernel, by decide +kernel, by decide +kernel, by decide +kernel⟩
theorem zi_cl0 : zi_Fs[0]? = some ("AgreeTold", (zi_Fs.getD 0 ("", [])).2) := rfl
theorem zi_lfirst {l : Launch} (hst : l.stackTraces = false) {B0 : Nat} {D : va_G} {dA : Nat → ClassId} {adK adV : Nat → Nat} {b : Nat} {ws : va_W} {vs : List Value} {A A' : List zi_C} {zal : List (Nat × zi_V)} {n0 k0 : Nat} {x1 x2 x3 : Int32} (hq0A : ∃ q : Nat × List zi_V, A[0]? = some (.inl q) ∧ q.1 = 0) (hrun0 : zi_run (zi_ev zi_Ms n0 60) [] zi_mg k0 (0, zi_ent 0 [.inl (.ref 10), .inl (.int x1), .inl (.int x2), .inl (.int x3)], [], A, 0, 0) = some (13, zal, [], A', 0, 0)) (hav : zi_F2 (zi_vr (zi_ad adK adV b ws)) [.inl (.ref 10), .inl (.int x1), .inl (.int x2), .inl (.int x3), .inl (.ref 109)] vs) (hA : zi_F2 (zi_cr (zi_ad adK adV b ws) dA) A ws) :
    Met l zi_mlf.1 zi_wlf (zi_room 80 1 6) (zi_Pc2 B0 D dA adK adV ws vs) (zi_Q B0 D dA adK adV b ws (some (.inl (.int 1))) A') 1 6 (fun q => B0 ≤ q) := by
  refine va_MetW (cc := zi_mlf.2.1) (maxL := 6) (ret := some .int) (hh := [(0, 12, 15, 13)]) (by decide) rfl ?_
  intro p e s m args below meth c s₁ B hml hv
  obtain ⟨rfl, ⟨hX, hY⟩, hP, hD⟩ := hv
  have hts := atoms_spec (ws := zi_wlf) B.pre
  have hts' : ∀ w ∈ zi_gd, w.before vs.toArray s = true := fun w hw => hts w (List.mem_cons_of_mem _ hw)
  have hown : s.vm.findClass "AgreeToldLaw" = some m.cls := findClass_of_methodNamed B.named
  have C : zi_Cx p (headSpec zi_wlf (zi_room 80 1 6)).room s m vs.toArray meth c B0 D dA adK adV b zi_mlf 60 [] := ⟨⟨B.exec, B.bytes, hml, B.returns, hown, hts', B.notSynchronized, (name_of_methodNamed B.named B.method).1⟩, hX, ⟨Nat.le_of_ble_eq_true rfl, Nat.le_of_ble_eq_true rfl⟩, Or.inl rfl⟩
  have htab := vx_table (x := zi_mlf.1) B (hts _ List.mem_cons_self)
  have hcat := zi_cats_ok hav
  have hc4 : zi_cats [.inl (.ref 10), .inl (.int x1), .inl (.int x2), .inl (.int x3), .inl (.ref 109)] = 5 := rfl
  have hrun : zi_run (zi_ev zi_Ms n0 60) [] zi_mlf 6 (0, zi_ent 0 [.inl (.ref 10), .inl (.int x1), .inl (.int x2), .inl (.int x3), .inl (.ref 109)], [], A, 0, 0) = some (7, zi_ent 0 [.inl (.ref 10), .inl (.int x1), .inl (.int x2), .inl (.int x3), .inl (.ref 109)], [.inl (.int x3), .inl (.int x2), .inl (.int x1), .inl (.ref 10), .inl (.int 0), .inl (.ref 109)], A, 0, 0) := rfl
  have hl := lv_entry vs (n := 6) (by rw [zi_sl_len, hcat, hc4]; exact Nat.le_of_ble_eq_true rfl)
  rw [lg_entry_eq]
  refine (zi_run_go (l := l) (e := e) (below := below) C (zi_ev_ok zi_Ms_ok n0 60) (fun mi N hN => (zi_Ms_ok mi N hN).1) zi_mlf_ok 6 hrun).1 _ ws s.heap [] _ [] ⟨hP, hD, va_S.rf, hA, ⟨_, hl, zi_ent_ok hav 0⟩, trivial⟩ (Nat.zero_le _) (Nat.zero_le _) (fun ws1 H locs ls sc hex hS => ?_)
  obtain ⟨h1, h2, h3, h4, ⟨lv, h5, h7⟩, h6⟩ := hS
  obtain ⟨w3, s3, e3, v3, k3⟩ := zi_F2_cons h6
  obtain ⟨w2, s2, e2, v2, k2⟩ := zi_F2_cons k3
  obtain ⟨w1, s1, e1, v1, k1⟩ := zi_F2_cons k2
  obtain ⟨w0, s0, e0, v0, k0⟩ := zi_F2_cons k1
  obtain ⟨wz, sz, ez, vz, kz⟩ := zi_F2_cons k0
  obtain ⟨wo, so, eo, vo, ko⟩ := zi_F2_cons kz
  have en := zi_F2_nil ko
  subst e3 e2 e1 e0 ez eo en
  have v0' := v0
  obtain ⟨a, had, rfl⟩ := v0
  have hav2 : zi_F2 (zi_vr (zi_ad adK adV b ws1)) [.inl (.ref 10), .inl (.int x1), .inl (.int x2), .inl (.int x3)] [.ref a, w1, w2, w3] := ⟨v0', v1, v2, v3, trivial⟩
  obtain ⟨q0, hq0, hq1⟩ := hq0A
  have hrcv : ∃ cellB : Cell, H[a]? = some cellB ∧ cellB.vm.isStatics = false ∧ s.vm.findClass "AgreeTold" = some cellB.cls := by
    obtain ⟨vv, hvv, -⟩ := zi_cell_obj (r := 10) h4 (Nat.le_refl _) had hq0
    rw [hq1] at hvv
    exact va_recv hX.1 h1 (zi_cl_at zi_cl0) hvv
  have hw8 : (([wz, wo] : List Value).map fun v => v.category).sum ≤ 8 := by
    have z1 := zi_vr_cat vz
    have z2 := zi_vr_cat vo
    show wz.category + (wo.category + 0) ≤ 8
    rw [z1, z2]
    exact Nat.le_of_ble_eq_true rfl
  refine vx_calli (A1 := fun q => B0 ≤ q) (vx_runV (Ts := zi_gd) (C := "AgreeTold") (As := [w1, w2, w3]) (rest := [wz, wo]) ⟨B.exec, B.bytes, hml, hown, hts'⟩ (zi_first hst hrun0 hav2 h4) (cwV 3 hts' (zi_goodL ?_) rfl rfl rfl (by decide) ⟨Nat.le_of_ble_eq_true rfl, Nat.le_of_ble_eq_true rfl⟩) ⟨(zi_pre2 (locs := locs) hX hY h1 h2 h3).1, hrcv, (zi_pre2 hX hY h1 h2 h3).2⟩ rfl rfl h5.1 rfl (lv_room hw8) zi_l7 ⟨Nat.le_refl _, Nat.le_refl _⟩) h3 (fun q _ h => h) (fun q h => h) (fun q _ h => h) (fun E ce q9 ws2 t H1 locs1 ht hvm hpx hbx hz hk hS1 hcell hcv hcc => ?_) (fun r u t H1 locs1 ht hvm hp => hp.elim)
  · intro w hw
    rcases List.mem_append.mp hw with z | z
    · rcases List.mem_cons.mp z with z | z
      · rw [z]; exact zi_mem_ok zi_lfw.1
      · rcases List.mem_cons.mp z with z | z
        · rw [z]; exact zi_mem_ok zi_lfw.2.1
        · rcases List.mem_cons.mp z with z | z
          · rw [z]; exact zi_mem_ok zi_lfw.2.2.1
          · rcases List.mem_cons.mp z with z | z
            · rw [z]; exact zi_mem_ok zi_lfw.2.2.2.1
            · cases z
    · exact (zi_good zi_mg_ok.1 w z).1
  · obtain ⟨hE, hP2, hD2⟩ := hbx
    subst hE
    rw [ht] at hP2
    refine vx_catch (own := "AgreeToldLaw") (name := zi_NS) hown [] ⟨0, 12, 15, 13⟩ [] htab (fun z hz => by cases hz) (show covers ⟨0, 12, 15, 13⟩ 7 = true by decide) (by decide) (hts' _ (zi_mem_ok zi_lfw.2.2.2.2.1)) (zi_castr (hts' _ (zi_mem_ok zi_lfw.2.2.2.2.2.1))) hcell hcv hcc ?_
    refine lv_astore B.exec B.bytes zi_l15 h5 (by decide) rfl (fun ls1 hl1 => ?_)
    refine lv_iconst (v := 1) B.exec B.bytes zi_l17 (by decide) ?_
    exact W.iret B.exec B.bytes B.returns (fun t' ht' hW => ⟨⟨some (.int 1), ws2, rfl, zi_ex_trans hex hpx.1, rfl, hpx.2, by rw [ht']; exact hP2, hD2⟩, hS1.F ht'⟩) hS1.2.2 zi_l18 B.notSynchronized
def zi_tl2f : zi_T := [(18, [(0, (.aload 4, 2, [])),
    (2, (.iconst 0, 1, [])),
    (3, (.aload_n 0, 1, [])),
    (4, (.iload_n 1, 1, [])),
    (5, (.iload_n 2, 1, [])),
    (6, (.iload_n 3, 1, [])),
    (7, (.invokevirtual 7, 3, [0, 4, 0, 1424, 1425, 1426])),
    (10, (.i2l, 1, [])),
    (11, (.lastore, 1, [])),
    (12, (.goto 7, 3, [19])),
    (15, (.astore 5, 2, [])),
    (17, (.iconst 1, 1, []))]),
  (100000, [(18, (.ireturn, 1, [])),
    (19, (.iconst 0, 1, [])),
    (20, (.ireturn, 1, []))])]
def zi_mlf2 : zi_M := (⟨"AgreeToldLaw", "first", "(LAgreeTold;III[J)I"⟩, method_3_code, 6, some .int, zi_tl2f, [])
theorem zi_mlf2_ok : zi_okT [zi_mg] zi_mlf2 := zi_okT_of (by decide +kernel)
/-- one layer of calls more -/
noncomputable def zi_ly (Ms : List zi_M) (call : zi_K) (n : Nat) : zi_K := fun mi vs A => match Ms[mi]? with
  | some M => bif Nat.ble (zi_cats vs) M.2.2.1 then zi_loop call M n (0, zi_ent 0 vs, [], A, 0, 0) else none
  | none => none
noncomputable def yi_ly (Ms : List zi_M) (call : yi_K) (n : Nat) : yi_K := fun mi vs H => match Ms[mi]? with
  | some M => bif Nat.ble (yi_cats vs) M.2.2.1 then yi_loop call M n (0, yi_ent 0 vs, [], H, 0, 0) else none
  | none => none
theorem yi_ly_ok {Ms : List zi_M} {yc : yi_K} {zc : zi_K} (hc : yi_cs yc zc) (n : Nat) : yi_cs (yi_ly Ms yc n) (zi_ly Ms zc n) := fun mi vs H r h zvs A hv hH => by
  have h : (match Ms[mi]? with | some M => bif Nat.ble (yi_cats vs) M.2.2.1 then yi_loop yc M n (0, yi_ent 0 vs, [], H, 0, 0) else none | none => none) = some r := h
  show ∃ zr, (match Ms[mi]? with | some M => bif Nat.ble (zi_cats zvs) M.2.2.1 then zi_loop zc M n (0, zi_ent 0 zvs, [], A, 0, 0) else none | none => none) = some zr ∧ yi_rr r zr
  cases hM : Ms[mi]? with
  | none => rw [hM] at h; cases h
  | some M =>
    rw [hM] at h
    dsimp only at h ⊢
    rw [yi_cats_ok hv]
    cases hb : Nat.ble (yi_cats vs) M.2.2.1 with
    | false => rw [hb] at h; cases h
    | true =>
      rw [hb] at h
      exact yi_loop_ok hc M n (Y := (0, yi_ent 0 vs, [], H, 0, 0)) (f := (0, zi_ent 0 zvs, [], A, 0, 0)) ⟨rfl, yi_ent_ok hv 0, trivial, hH, rfl, rfl⟩ h
theorem zi_ly_ok {l : Launch} {Ms Ms2 : List zi_M} {d : Nat} {call : zi_K} (ih : zi_Ct l Ms d call) (hMs : ∀ (mi : Nat) (N : zi_M), Ms[mi]? = some N → zi_okM N) (h2 : ∀ (mi : Nat) (N : zi_M), Ms2[mi]? = some N → zi_okM N ∧ zi_okT Ms N) (n : Nat) : zi_Ct l Ms2 (d + 1) (zi_ly Ms2 call n) := fun mi avs A r h => by
  have h : (match Ms2[mi]? with | some M => bif Nat.ble (zi_cats avs) M.2.2.1 then zi_loop call M n (0, zi_ent 0 avs, [], A, 0, 0) else none | none => none) = some r := h
  cases hM : Ms2[mi]? with
  | none => rw [hM] at h; cases h
  | some M =>
    rw [hM] at h
    dsimp only at h
    cases hb : Nat.ble (zi_cats avs) M.2.2.1 with
    | false => rw [hb] at h; cases h
    | true =>
      rw [hb] at h
      have hb := Nat.le_of_ble_eq_true hb
      have h : zi_loop call M n (0, zi_ent 0 avs, [], A, 0, 0) = some r := h
      obtain ⟨hok, hT⟩ := h2 mi M hM
      refine ⟨M, rfl, ?_⟩
      intro B0 D dA adK adV b ws vs hvs hA
      refine zi_MetW (cc := M.2.1) (maxL := M.2.2.1) (ret := M.2.2.2.1) hok.2.2.2.1 rfl ?_
      intro p e s m args below meth c s₁ B hml hv
      obtain ⟨rfl, hX, hP, hD⟩ := hv
      have hts := atoms_spec (ws := zi_ws M) B.pre
      have hcat := zi_cats_ok hvs
      have hl := lv_entry vs (n := M.2.2.1) (by rw [zi_sl_len, hcat]; exact hb)
      rw [lg_entry_eq]
      have C : zi_Cx p (headSpec (zi_ws M) (zi_room (d + 1) r.2.2.1 r.2.2.2)).room s m vs.toArray meth c B0 D dA adK adV b M d [] :=
        ⟨⟨B.exec, B.bytes, hml, B.returns, findClass_of_methodNamed B.named, fun w hw => hts w (List.mem_cons_of_mem _ hw), B.notSynchronized, (name_of_methodNamed B.named B.method).1⟩, hX, ⟨Nat.le_refl _, Nat.le_refl _⟩, Or.inl rfl⟩
      exact (zi_loop_ok C ih hMs hT n h (Nat.le_refl _) (Nat.le_refl _)).2 ws s.heap [] _ [] (zi_ex_refl ws) ⟨hP, hD, va_S.rf, hA, ⟨_, hl, zi_ent_ok hvs 0⟩, trivial⟩
theorem zi_lfret {l : Launch} {B0 : Nat} {D : va_G} {dA : Nat → ClassId} {adK adV : Nat → Nat} {b : Nat} {ws : va_W} {vs : List Value} {A : List zi_C} {n0 k0 : Nat} {x1 x2 x3 : Int32} {r : zi_R} (hrun : zi_loop (zi_ly [zi_mg] (zi_ev zi_Ms n0 60) n0) zi_mlf2 k0 (0, zi_ent 0 [.inl (.ref 10), .inl (.int x1), .inl (.int x2), .inl (.int x3), .inl (.ref 109)], [], A, 0, 0) = some r) (hav : zi_F2 (zi_vr (zi_ad adK adV b ws)) [.inl (.ref 10), .inl (.int x1), .inl (.int x2), .inl (.int x3), .inl (.ref 109)] vs) (hA : zi_F2 (zi_cr (zi_ad adK adV b ws) dA) A ws) :
    Met l zi_mlf.1 zi_wlf (zi_room 80 r.2.2.1 r.2.2.2) (zi_Pc2 B0 D dA adK adV ws vs) (zi_Q B0 D dA adK adV b ws r.1 r.2.1) r.2.2.1 r.2.2.2 (fun q => B0 ≤ q) := by
  refine va_MetW (cc := zi_mlf.2.1) (maxL := 6) (ret := some .int) (hh := [(0, 12, 15, 13)]) (by decide) rfl ?_
  intro p e s m args below meth c s₁ B hml hv
  obtain ⟨rfl, ⟨hX, hY⟩, hP, hD⟩ := hv
  have hts := atoms_spec (ws := zi_wlf) B.pre
  have hts' : ∀ w ∈ zi_gd, w.before vs.toArray s = true := fun w hw => hts w (List.mem_cons_of_mem _ hw)
  have hown : s.vm.findClass "AgreeToldLaw" = some m.cls := findClass_of_methodNamed B.named
  have C : zi_Cx p (headSpec zi_wlf (zi_room 80 r.2.2.1 r.2.2.2)).room s m vs.toArray meth c B0 D dA adK adV b zi_mlf2 61 [] := ⟨⟨B.exec, B.bytes, hml, B.returns, hown, hts', B.notSynchronized, (name_of_methodNamed B.named B.method).1⟩, hX, ⟨Nat.le_of_ble_eq_true rfl, Nat.le_of_ble_eq_true rfl⟩, Or.inl rfl⟩
  have hcat := zi_cats_ok hav
  have hc4 : zi_cats [.inl (.ref 10), .inl (.int x1), .inl (.int x2), .inl (.int x3), .inl (.ref 109)] = 5 := rfl
  have hl := lv_entry vs (n := 6) (by rw [zi_sl_len, hcat, hc4]; exact Nat.le_of_ble_eq_true rfl)
  rw [lg_entry_eq]
  have hg : ∀ (mi : Nat) (N : zi_M), ([zi_mg] : List zi_M)[mi]? = some N → zi_okM N ∧ zi_okT zi_Ms N := fun mi N hN => by
    have e : N = zi_mg := by
      cases mi with
      | zero => exact (Option.some.inj hN).symm
      | succ j => simp at hN
    rw [e]
    exact zi_mg_ok
  exact (zi_loop_ok C (zi_ly_ok (zi_ev_ok zi_Ms_ok n0 60) (fun mi N hN => (zi_Ms_ok mi N hN).1) hg n0) (fun mi N hN => (hg mi N hN).1) zi_mlf2_ok k0 hrun (Nat.le_refl _) (Nat.le_refl _)).2 ws s.heap [] _ [] (zi_ex_refl ws) ⟨hP, hD, va_S.rf, hA, ⟨_, hl, zi_ent_ok hav 0⟩, trivial⟩
