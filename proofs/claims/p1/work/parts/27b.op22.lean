theorem zi_yt : Cond.laysStatic Bundle.tN "UNASSIGNED_STACK" Bundle.steD ∈ lw_tbl ∧ Cond.laysStatic Bundle.tN "SUPPRESSED_SENTINEL" Bundle.listD ∈ lw_tbl ∧ Cond.initialized Bundle.tN ∈ lw_tbl ∧ Cond.isRef (.static Bundle.tN "UNASSIGNED_STACK" Bundle.steD) ∈ zi_fl ∧ Cond.isRef (.static Bundle.tN "SUPPRESSED_SENTINEL" Bundle.listD) ∈ zi_fl := ⟨by decide +kernel, by decide +kernel, by decide +kernel, by decide +kernel, by decide +kernel⟩
theorem zi_dcw : ∀ x ∈ zi_dcl, Cond.declares x ∈ lw_tbl := by decide +kernel
theorem zi_Y_ex {args : Array Value} {s : State} (hts : ∀ w ∈ lw_tbl, w.before args s = true) (hgv : (Jvm.Cond.and given_1 narrow_1).before args s = true) : zi_Y s.heap.size s := by
  have hs : ∀ w ∈ zi_fl, w.before args s = true := flat_of_before _ hgv
  have hA : ∀ a : Nat, a < s.heap.size → ¬ s.heap.size ≤ a := fun a h => Nat.not_le.mpr h
  exact ⟨fun x hx => va_tabs rfl rfl (hts _ (zi_dcw x hx)), vx_Zqof (hts _ zi_yt.1) (hts _ zi_yt.2.2.1) (hs _ zi_yt.2.2.2.1) hA, vx_Zqof (hts _ zi_yt.2.1) (hts _ zi_yt.2.2.1) (hs _ zi_yt.2.2.2.2) hA⟩
theorem zi_nt {l : Launch} (h : l.flags = flags0) : l.stackTraces = false := by
  unfold Launch.stackTraces
  rw [h]
  decide
section ZF
variable {p : Program} {l : Launch} {e : Env} {s : State} {m : MethodId} {below : List Frame} {meth : Method} {c : Code} {D : va_G} {dA : Nat → ClassId} {adK adV : Nat → Nat} {b : Nat} {sl : List zi_V} {xs : Nat → Int32}
theorem zi_op22g (hst : l.stackTraces = false) (hY : zi_Y s.heap.size s) {vp : zi_V} (hvp : zi_cat vp = 1) (hr0 : zi_run zi_call [] zi_mf 7 (0, zi_ent 0 [.inl (.ref 10), vp, zi_any, zi_any], [], zi_A0, 0, 0) = some (zi_fr vp)) (hr1 : zi_run zi_call [] zi_mlf 6 (0, zi_ent 0 [.inl (.ref 10), vp, zi_any, zi_any, .inl (.ref 109)], [], zi_A0, 0, 0) = some (zi_lfr vp)) (hrl : zi_run zi_call sl zi_mlaw 17 (996, zi_al0, [], zi_A0, 100, 177797) = some (1016, zi_al0, [.inl (.ref 109), zi_any, zi_any, vp, .inl (.ref 10)], zi_A0, 100, 177797)) (hfin : zi_fin sl 35 (1019, zi_al0, [.inl (.int 1)], zi_A0, 101, 177803) = true)
    (C : zi_Cx p room_1 s m #[Value.ref b] meth c s.heap.size D dA adK adV b zi_mlaw 40 sl) {ws : va_W} {H : Heap} {locs : List Loc} {ls : Array Slot} {sc : List Value} (hS : zi_St s.heap.size D dA adK adV b 7 s zi_f0 ws H locs ls sc) : zi_W p l e room_1 s m #[Value.ref b] below meth c (lw_Z below #[Value.ref b] s) 100 177797 996 H locs ls sc := by
  obtain ⟨⟨hx, hb, hml, hret, hown, hts, hlk, hnm⟩, hX, -⟩ := id C
  refine (zi_run_go (l := l) (e := e) (below := below) C zi_call_ok (fun mi N hN => (zi_Ms_ok mi N hN).1) zi_law_ok 17 hrl).1 _ ws H locs ls sc (zi_f0_at hS) (Nat.le_of_ble_eq_true rfl) (Nat.le_of_ble_eq_true rfl) (fun ws1 H1 locs1 ls1 sc1 hex hS1 => ?_)
  obtain ⟨h1, h2, h3, h4, ⟨lv, h5, h7⟩, h6⟩ := hS1
  obtain ⟨wo, so, eo, vo, ko⟩ := zi_F2_cons h6
  obtain ⟨w3, s3, e3, v3, k3⟩ := zi_F2_cons ko
  obtain ⟨w2, s2, e2, v2, k2⟩ := zi_F2_cons k3
  obtain ⟨w1, s1, e1, v1, k1⟩ := zi_F2_cons k2
  obtain ⟨w0, s0, e0, v0, k0⟩ := zi_F2_cons k1
  have en := zi_F2_nil k0
  subst eo e3 e2 e1 e0 en
  have hav : zi_F2 (zi_vr (zi_ad adK adV b ws1)) [.inl (.ref 10), vp, zi_any, zi_any, .inl (.ref 109)] [w0, w1, w2, w3, wo] := ⟨v0, v1, v2, v3, vo, trivial⟩
  refine zi_callW (ws := ws1) (rv := some (.inl (.int 1))) (A' := zi_A0) (mc := 1) (ms := 6) (vx_runSW (Ts := zi_gd) (own := "AgreeToldLaw") (As := [w0, w1, w2, w3, wo]) (rest := []) ⟨hx, hb, hml, hown, hts⟩ (zi_lfirst hst hvp hr0 hr1 hav h4) (vx_cwSW 5 hts (zi_goodL ?_) rfl rfl rfl (by decide) ⟨Nat.le_of_ble_eq_true rfl, Nat.le_of_ble_eq_true rfl⟩) (zi_pre2 hX hY h1 h2 h3) rfl rfl h5.1 rfl (lv_room (Nat.zero_le _)) zi_d1016 ⟨Nat.le_of_ble_eq_true rfl, Nat.le_of_ble_eq_true rfl⟩) h3 (fun v ws2 H2 locs2 hex2 hro hF hP hD hS2 => ?_)
  · intro w hw
    rcases List.mem_append.mp hw with z | z
    · rcases List.mem_cons.mp z with z | z
      · rw [z]; exact zi_mem_ok zi_lfw.2.2.2.2.2.2.1
      · rcases List.mem_cons.mp z with z | z
        · rw [z]; exact zi_mem_ok zi_lfw.2.2.2.2.2.2.2.1
        · rcases List.mem_cons.mp z with z | z
          · rw [z]; exact zi_mem_ok zi_lfw.2.2.2.2.2.2.2.2.1
          · cases z
    · rcases List.mem_cons.mp z with z | z
      · rw [z]; exact zi_mem_ok zi_lfw.2.2.2.2.2.2.2.2.2
      · exact z
  · cases v with
    | none => exact hro.elim
    | some w =>
      have hw : w = .int 1 := hro
      subst hw
      have hm := zi_ex_mo (adK := adK) (adV := adV) (b := b) hex2
      exact zi_fin_ok C hfin ⟨hP, hD, hS2, hF, ⟨lv, h5, zi_F2_mono (fun _ _ h => ⟨h.1, zi_vr_mo hm h.2⟩) h7⟩, ⟨rfl, trivial⟩⟩
theorem zi_22a_neg : zi_run zi_call [zi_any, .inr (-2147483648, -1), zi_any, zi_any, zi_any, zi_any, zi_any] zi_mlaw 17 (996, zi_al0, [], zi_A0, 100, 177797) = some (1016, zi_al0, [.inl (.ref 109), zi_any, zi_any, .inr (-2147483648, -1), .inl (.ref 10)], zi_A0, 100, 177797) := zi_feq_ok (by decide +kernel)
theorem zi_22a_pos : zi_run zi_call [zi_any, .inr (0, 2147483647), zi_any, zi_any, zi_any, zi_any, zi_any] zi_mlaw 17 (996, zi_al0, [], zi_A0, 100, 177797) = some (1016, zi_al0, [.inl (.ref 109), zi_any, zi_any, .inr (0, 2147483647), .inl (.ref 10)], zi_A0, 100, 177797) := zi_feq_ok (by decide +kernel)
theorem zi_22b_neg : zi_fin [zi_any, .inr (-2147483648, -1), zi_any, zi_any, zi_any, zi_any, zi_any] 35 (1019, zi_al0, [.inl (.int 1)], zi_A0, 101, 177803) = true := by decide +kernel
theorem zi_22b_pos : zi_fin [zi_any, .inr (0, 2147483647), zi_any, zi_any, zi_any, zi_any, zi_any] 35 (1019, zi_al0, [.inl (.int 1)], zi_A0, 101, 177803) = true := by decide +kernel
theorem zi_op22 (hflags : l.flags = flags0) (hY : zi_Y s.heap.size s) (C : zi_Cx p room_1 s m #[Value.ref b] meth c s.heap.size D dA adK adV b zi_mlaw 40 []) (hX : va_X b 7 xs s s.heap) (hbl : b < s.heap.size) {ws : va_W} {H : Heap} {locs : List Loc} {ls : Array Slot} {sc : List Value} (hS : zi_St s.heap.size D dA adK adV b 7 s zi_f0 ws H locs ls sc) : zi_W p l e room_1 s m #[Value.ref b] below meth c (lw_Z below #[Value.ref b] s) 100 177797 996 H locs ls sc := by
  have b1 := zi_bd (xs 1)
  rcases (show (xs 1).toInt ≤ -1 ∨ 0 ≤ (xs 1).toInt by omega) with h | h
  · exact zi_op22g (zi_nt hflags) hY rfl zi_fr_neg zi_lfr_neg zi_22a_neg zi_22b_neg (zi_scr C hX hbl (zi_ra (xs 0)) (zi_ri (a := -2147483648) (z := -1) (by decide) (by decide) (by omega) (by omega)) (zi_ra (xs 2)) (zi_ra (xs 3)) (zi_ra (xs 4)) (zi_ra (xs 5)) (zi_ra (xs 6))) hS
  · exact zi_op22g (zi_nt hflags) hY rfl zi_fr_pos zi_lfr_pos zi_22a_pos zi_22b_pos (zi_scr C hX hbl (zi_ra (xs 0)) (zi_ri (a := 0) (z := 2147483647) (by decide) (by decide) (by omega) (by omega)) (zi_ra (xs 2)) (zi_ra (xs 3)) (zi_ra (xs 4)) (zi_ra (xs 5)) (zi_ra (xs 6))) hS
end ZF
