/-! The law's call of its own first, at the machine. -/
theorem zi_yt : Cond.laysStatic Bundle.tN "UNASSIGNED_STACK" Bundle.steD ∈ lw_tbl ∧ Cond.laysStatic Bundle.tN "SUPPRESSED_SENTINEL" Bundle.listD ∈ lw_tbl ∧ Cond.initialized Bundle.tN ∈ lw_tbl ∧ Cond.isRef (.static Bundle.tN "UNASSIGNED_STACK" Bundle.steD) ∈ zi_fl ∧ Cond.isRef (.static Bundle.tN "SUPPRESSED_SENTINEL" Bundle.listD) ∈ zi_fl := ⟨by decide +kernel, by decide +kernel, by decide +kernel, by decide +kernel, by decide +kernel⟩
theorem zi_dcw : ∀ x ∈ zi_dcl, Cond.declares x ∈ lw_tbl := by decide +kernel
theorem zi_Y_ex {args : Array Value} {s : State} (hts : ∀ w ∈ lw_tbl, w.before args s = true) (hgv : (Jvm.Cond.and given_1 narrow_1).before args s = true) : zi_Y s.heap.size s := by
  have hs : ∀ w ∈ zi_fl, w.before args s = true := flat_of_before _ hgv
  have hA : ∀ a : Nat, a < s.heap.size → ¬ s.heap.size ≤ a := fun a h => Nat.not_le.mpr h
  exact ⟨fun x hx => va_tabs rfl rfl (hts _ (zi_dcw x hx)), vx_Zqof (hts _ zi_yt.1) (hts _ zi_yt.2.2.1) (hs _ zi_yt.2.2.2.1) hA, vx_Zqof (hts _ zi_yt.2.1) (hts _ zi_yt.2.2.1) (hs _ zi_yt.2.2.2.2) hA⟩
theorem zi_nt {l : Launch} (h : l.flags = flags0) : l.stackTraces = false := by
  unfold Launch.stackTraces
  rw [h]
  decide
section ZF
variable {p : Program} {l : Launch} {e : Env} {s : State} {m : MethodId} {below : List Frame} {meth : Method} {c : Code} {D : va_G} {dA : Nat → ClassId} {adK adV : Nat → Nat} {b : Nat} {sl : List zi_V}
theorem zi_o22 (hY : zi_Y s.heap.size s) {x1 x2 x3 : Int32} {A A' : List zi_C} {v : zi_V} {mc ms nc ns : Nat} {zal : List (Nat × zi_V)} (hM : ∀ (ws : va_W) (vs : List Value), zi_F2 (zi_vr (zi_ad adK adV b ws)) [.inl (.ref 10), .inl (.int x1), .inl (.int x2), .inl (.int x3), .inl (.ref 109)] vs → zi_F2 (zi_cr (zi_ad adK adV b ws) dA) A ws → Met l zi_mlf.1 zi_wlf (zi_room 80 mc ms) (zi_Pc2 s.heap.size D dA adK adV ws vs) (zi_Q s.heap.size D dA adK adV b ws (some v) A') mc ms (fun q => s.heap.size ≤ q))
    (C : zi_Cx p room_1 s m #[Value.ref b] meth c s.heap.size D dA adK adV b zi_mlaw 60 sl) (hcc : nc + mc ≤ room_1.cells) (hss : ns + ms ≤ room_1.slots) {Qm : State → Prop} {ws : va_W} {H : Heap} {locs : List Loc} {ls : Array Slot} {sc : List Value} (hS : zi_St s.heap.size D dA adK adV b 7 s (1016, zal, [.inl (.ref 109), .inl (.int x3), .inl (.int x2), .inl (.int x1), .inl (.ref 10)], A, nc, ns) ws H locs ls sc)
    (kk : ∀ (ws' : va_W) (H' : Heap) (locs' : List Loc) (ls' : Array Slot) (sc' : List Value), zi_St s.heap.size D dA adK adV b 7 s (1019, zal, [v], A', nc + mc, ns + ms) ws' H' locs' ls' sc' → zi_W p l e room_1 s m #[Value.ref b] below meth c Qm (nc + mc) (ns + ms) 1019 H' locs' ls' sc') : zi_W p l e room_1 s m #[Value.ref b] below meth c Qm nc ns 1016 H locs ls sc := by
  obtain ⟨⟨hx, hb, hml, hret, hown, hts, hlk, hnm⟩, hX, -⟩ := id C
  obtain ⟨h1, h2, h3, h4, ⟨lv, h5, h7⟩, h6⟩ := hS
  obtain ⟨wo, so, eo, vo, ko⟩ := zi_F2_cons h6
  obtain ⟨w3, s3, e3, v3, k3⟩ := zi_F2_cons ko
  obtain ⟨w2, s2, e2, v2, k2⟩ := zi_F2_cons k3
  obtain ⟨w1, s1, e1, v1, k1⟩ := zi_F2_cons k2
  obtain ⟨w0, s0, e0, v0, k0⟩ := zi_F2_cons k1
  have en := zi_F2_nil k0
  subst eo e3 e2 e1 e0 en
  have hav : zi_F2 (zi_vr (zi_ad adK adV b ws)) [.inl (.ref 10), .inl (.int x1), .inl (.int x2), .inl (.int x3), .inl (.ref 109)] [w0, w1, w2, w3, wo] := ⟨v0, v1, v2, v3, vo, trivial⟩
  refine zi_callW (ws := ws) (rv := some v) (A' := A') (mc := mc) (ms := ms) (vx_runSW (Ts := zi_gd) (own := "AgreeToldLaw") (As := [w0, w1, w2, w3, wo]) (rest := []) ⟨hx, hb, hml, hown, hts⟩ (hM ws _ hav h4) (vx_cwSW 5 hts (zi_goodL ?_) rfl rfl rfl (by decide) ⟨Nat.le_of_ble_eq_true rfl, Nat.le_of_ble_eq_true rfl⟩) (zi_pre2 hX hY h1 h2 h3) rfl rfl h5.1 rfl (lv_room (Nat.zero_le _)) zi_d1016 ⟨hcc, hss⟩) h3 (fun v' ws2 H2 locs2 hex2 hro hF hP hD hS2 => ?_)
  · intro w hw
    rcases List.mem_append.mp hw with z | z
    · rcases List.mem_cons.mp z with z | z
      · rw [z]; exact zi_mem_ok zi_lfw.2.2.2.2.2.2.1
      · rcases List.mem_cons.mp z with z | z
        · rw [z]; exact zi_mem_ok zi_lfw.2.2.2.2.2.2.2.1
        · rcases List.mem_cons.mp z with z | z
          · rw [z]; exact zi_mem_ok zi_lfw.2.2.2.2.2.2.2.2.1
          · cases z
    · rcases List.mem_cons.mp z with z | z
      · rw [z]; exact zi_mem_ok zi_lfw.2.2.2.2.2.2.2.2.2
      · exact z
  · cases v' with
    | none => exact hro.elim
    | some w =>
      have hm := zi_ex_mo (adK := adK) (adV := adV) (b := b) hex2
      exact kk ws2 H2 locs2 ls [w] ⟨hP, hD, hS2, hF, ⟨lv, h5, zi_F2_mono (fun _ _ h => ⟨h.1, zi_vr_mo hm h.2⟩) h7⟩, ⟨hro, trivial⟩⟩
end ZF
