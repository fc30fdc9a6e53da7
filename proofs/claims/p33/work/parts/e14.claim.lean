/-! The law, from its entry. -/
theorem zi_d23 : decode code 23 = .ok (.iload 4, 2) := by decide +kernel
theorem zi_d25 : decode code 25 = .ok (.aload_n 0, 1) := by decide +kernel
theorem zi_d26 : decode code 26 = .ok (.arraylength, 1) := by decide +kernel
theorem zi_d27 : decode code 27 = .ok (.bipush 7, 2) := by decide +kernel
theorem zi_d29 : decode code 29 = .ok (.isub, 1) := by decide +kernel
theorem zi_d30 : decode code 30 = .ok (.if_icmp .gt 1374, 3) := by decide +kernel
theorem zi_d1404 : decode code 1404 = .ok (.iconst 1, 1) := by decide +kernel
section ZF
variable {p : Program} {l : Launch} {e : Env} {s : State} {m : MethodId} {below : List Frame} {meth : Method} {c : Code} {D : va_G} {dA : Nat → ClassId} {adK adV : Nat → Nat} {b : Nat} {xs : Nat → Int32}
theorem zi_main0 (C : zi_Cx p room_1 s m #[Value.ref b] meth c s.heap.size D dA adK adV b zi_mlaw 60 []) (hX : va_X b 0 xs s s.heap) (hbl : b < s.heap.size) {ws : va_W} {H : Heap} {locs : List Loc} {ls : Array Slot} {sc : List Value} (hS : zi_St s.heap.size D dA adK adV b 7 s zi_f0 ws H locs ls sc) : zi_W p l e room_1 s m #[Value.ref b] below meth c (lw_Z below #[Value.ref b] s) 100 177797 23 H locs ls sc := by
  obtain ⟨⟨hx, hb, hml, hret, hown, hts, hlk, hnm⟩, -⟩ := id C
  obtain ⟨h1, h2, h3, h4, ⟨lv, h5, h7⟩, h6⟩ := id hS
  have e0 := zi_F2_nil h6
  subst e0
  obtain ⟨k4, w4, g4, v4⟩ := zi_loc_get (i := 4) (v := .inl (.int 0)) h7 rfl
  obtain ⟨k0, w0, g0, a0, v0, r0⟩ := zi_loc_get (i := 0) (v := .inl (.ref 8)) h7 rfl
  have v4 : w4 = .int 0 := v4
  subst v4
  have ea := zi_ad_scr v0
  subst ea
  subst r0
  have l4 := lv_at h5 k4 g4
  have l0 := lv_at h5 k0 g0
  refine lv_iload hx hb zi_d23 l4 ?_
  refine lv_aload_n hx hb zi_d25 rfl l0 ?_
  refine va_slen hx hb hX hbl (Nat.not_le.mpr hbl) h3 zi_d26 ?_
  refine lv_bipush (v := 7) hx hb zi_d27 (by decide) ?_
  refine lv_isub hx hb zi_d29 ?_
  refine lv_icmp_gt (tgt := 1404) hx hb zi_d30 (by decide) (fun cgt => ?_) (fun cgt => ?_)
  · refine lv_iconst (v := 1) hx hb zi_d1404 (by decide) ?_
    exact zi_end C (Nat.le_of_ble_eq_true rfl) (Nat.le_of_ble_eq_true rfl) h3
  · exact absurd (by decide) cgt
theorem zi_main (hflags : l.flags = flags0) (hY : zi_Y s.heap.size s) {L : Nat} (hL : L ≤ 3584) (C : zi_Cx p room_1 s m #[Value.ref b] meth c s.heap.size D dA adK adV b zi_mlaw 60 []) (hX : va_X b L xs s s.heap) (hbl : b < s.heap.size) {ws : va_W} {H : Heap} {locs : List Loc} {ls : Array Slot} {sc : List Value} (hS : zi_St s.heap.size D dA adK adV b 7 s zi_f0 ws H locs ls sc) : zi_W p l e room_1 s m #[Value.ref b] below meth c (lw_Z below #[Value.ref b] s) 100 177797 23 H locs ls sc := by
  rcases Nat.eq_zero_or_pos L with h0 | h0
  · subst h0
    exact zi_main0 C hX hbl hS
  · have C2 : zi_Cx p room_1 s m #[Value.ref b] meth c s.heap.size D dA adK adV b zi_mlaw 60 ((List.range L).map (fun j => (.inl (.int (xs j)) : zi_V))) := by
      refine ⟨C.1, C.2.1, C.2.2.1, Or.inr ⟨xs, by rw [List.length_map, List.length_range]; exact hX, hbl, hbl, fun ad j v hj => ?_⟩⟩
      rw [List.getElem?_map] at hj
      rcases Nat.lt_or_ge j L with h | h
      · rw [List.getElem?_range h] at hj
        cases hj
        exact rfl
      · rw [List.getElem?_eq_none (by rw [List.length_range]; exact h)] at hj
        cases hj
    have hlen : ((List.range L).map (fun j => (xs j).toInt)).length = L := by rw [List.length_map, List.length_range]
    exact lw_mn (zi_nt hflags) hY (sl := (List.range L).map (fun j => (xs j).toInt)) (zi_F2_map (fun a => ⟨xs a, rfl, rfl⟩) _) (by rw [hlen]; exact hL) (by rw [hlen]; exact h0) C2 512 0 0 (by omega) (by omega) (23, [(4, .inl 0), (3, .inr (.inr (some 109))), (2, .inr (.inr (some 82))), (1, .inr (.inr (some 10))), (0, .inr (.inr (some 8)))], [], hz zi_A0, 100, 177797) zi_f0 ⟨_, _, _, _, _, _, rfl, hz_M⟩ ⟨rfl, ⟨⟨rfl, ⟨0, rfl, rfl⟩⟩, ⟨rfl, rfl⟩, ⟨rfl, rfl⟩, ⟨rfl, rfl⟩, ⟨rfl, rfl⟩, trivial⟩, trivial, hz_A0, rfl, rfl⟩ ws H locs ls sc hS
end ZF
theorem whole_start {p : Program} {e : Env} {s : State} {m : MethodId} {below : List Frame} {meth : Method} {c : Code} (l : Launch) (hflags : l.flags = flags0) {b L : Nat} {xs : Nat → Int32} (hL : L ≤ 3584) (C0 : lw_At p s m meth c b L xs) : W p l e room_1 s m #[Value.ref b] below meth c s.heap [] 0 0 (lw_Z below #[Value.ref b] s) (entryFrame m ([Value.ref b] : List Value).toArray 7) := by
  obtain ⟨hx, hb, hr, hml, hown, hts, hX, hbl, hlocks, hgv, hname⟩ := C0
  obtain ⟨D, dA, adK, adV, hX0⟩ := zi_X_ex hts hgv
  have C : zi_Cx p room_1 s m #[Value.ref b] meth c s.heap.size D dA adK adV b zi_mlaw 60 [] := ⟨⟨hx, hb, hml, hr, hown, fun w hw => hts w (List.mem_filter.mp hw).1, hlocks, hname⟩, hX0, ⟨Nat.le_of_ble_eq_true rfl, Nat.le_of_ble_eq_true rfl⟩, Or.inl rfl⟩
  have hl := lv_entry ([.ref b]) (n := 7) (Nat.le_of_ble_eq_true rfl)
  rw [lg_entry_eq]
  generalize (lg_sl ([.ref b]) ++ List.replicate (7 - (lg_sl ([.ref b])).length) Slot.unset).toArray = ls at hl ⊢
  have hl : lv_has ls 7 [(0, .ref b)] := hl
  have hS0 : zi_St s.heap.size D dA adK adV b 7 s (0, [(0, .inl (.ref 8))], [], [], 0, 0) [] s.heap [] ls [] := ⟨fun k q h => by simp at h, ⟨fun i j p q h => by simp at h, fun k q h => by simp at h⟩, va_S.rf, trivial, ⟨_, hl, ⟨⟨rfl, ⟨b, rfl, rfl⟩⟩, trivial⟩⟩, trivial⟩
  exact (zi_run_go (l := l) (e := e) (below := below) C (zi_ev_ok zi_Ms_ok 100000 60) (fun mi N hN => (zi_Ms_ok mi N hN).1) zi_law_ok 13 zi_run0).1 _ [] s.heap [] ls [] hS0 (Nat.le_of_ble_eq_true rfl) (Nat.le_of_ble_eq_true rfl) (fun ws H locs ls sc hex hS => zi_main hflags (zi_Y_ex hts hgv) hL C hX hbl hS)
-- ===== YOUR PART ENDS =====
set_option maxHeartbeats 4000000 in
theorem lw_walk (l : Launch) (hflags : l.flags = flags0) (b : Addr) (xs : List Int32) : MetFree l x (headSpec (Jvm.Cond.code x code maxLocals ret :: tables_1) room_1) (lw_P b xs) (fun _ _ _ _ _ => True) lw_QQ := by
  refine MetFree.of_bodyS (code := code) (maxLocals := maxLocals) (ret := ret) (by decide) ?_ ?_
  · intro args s m h hn
    obtain ⟨meth, c, h1, h2, h3, h4, h5, h6, -, -⟩ := Cond.code_spec hn (atoms_spec (ws := Jvm.Cond.code x code maxLocals ret :: tables_1) h _ List.mem_cons_self)
    exact ⟨meth, c, h1, h2, h3, h4, h5, h6⟩
  · intro p e s m args below meth c s₁ B hml0 hP _
    obtain ⟨rfl, hx, hbd, hgv⟩ := hP
    obtain ⟨scr, harrAt, hlist, hof, hsmall⟩ := hx
    obtain ⟨hcb, hkn, -, -⟩ := State.arrayAt?_spec harrAt
    have hown : s.vm.findClass R_law = some m.cls := findClass_of_methodNamed B.named
    have hts0 : ∀ c ∈ (Jvm.Cond.code x code maxLocals ret :: tables_1), c.before #[Value.ref b] s = true := atoms_spec (ws := Jvm.Cond.code x code maxLocals ret :: tables_1) B.pre
    have hts : ∀ w ∈ lw_tbl, w.before #[Value.ref b] s = true := k2_hts_sels lw_privs (fun w hw => hts0 w (List.mem_cons_of_mem _ hw)) lw_privs_ok
    have hml : c.maxLocals = 7 := B.maxLocals_eq (hts0 _ List.mem_cons_self)
    have X₀ : Stand p l e room_1 s m #[Value.ref b] below meth c s₁ [] 0 0 := Stand.of_body B
    have hh0 : s₁.heap = s.heap := by rw [B.state]; rfl
    have hsz : scr.slots.size = xs.length := by rw [← Array.length_toList, hlist, List.length_map]
    have hval : ∀ j : Nat, j < xs.length → scr.slots[j]? = some (.int (xs.getD j 0)) := fun j hj => by
      rw [← Array.getElem?_toList, hlist]
      simp [hj]
    have hbl : b < s.heap.size := (Array.getElem?_eq_some_iff.mp hcb).1
    have hX : va_X b xs.length (fun j => xs.getD j 0) s s.heap := ⟨scr, hcb, hof, hkn, hsz, hval⟩
    have K : W p l e room_1 s m #[Value.ref b] below meth c s₁.heap [] 0 0 (lw_Z below #[Value.ref b] s) (entryFrame m ([Value.ref b] : List Value).toArray 7) := by
      rw [hh0]
      exact whole_start l hflags hbd ⟨B.exec, B.bytes, B.returns, hml, hown, hts, hX, hbl, B.notSynchronized, hgv, (name_of_methodNamed B.named B.method).1⟩
    obtain ⟨t, a1, o, b1, b2, b3⟩ := K s₁ rfl X₀
    exact ⟨t, o, a1, b1, b2, b3⟩
theorem lw_pre_spec {args : Array Value} {s : State} (h : (Jvm.Cond.and given_1 narrow_1).before args s = true) (hr : rest_1_c.before args s = true) : ∃ (b : Addr) (xs : List Int32), lw_P b xs args s := by
  have hs := flat_of_before _ h
  have hq := flat_of_before _ hr
  have hc : (Cond.count 1).before args s = true := hs _ (by decide +kernel)
  have harr : (Cond.arrayOf (.arg 0) .int).before args s = true := hs _ (by decide +kernel)
  have hle : (Cond.le (.length (.arg 0)) (.int 3584)).before args s = true := hs _ (by decide +kernel)
  have hlen : (Cond.isInt (.length (.arg 0))).before args s = true := hq _ (by decide +kernel)
  have hall : (Cond.all (.arg 0) (.isInt (.elem (.arg 0) (.index 0)))).before args s = true := hq _ (by decide +kernel)
  obtain ⟨b, xs, hb, hx⟩ := State.ints_of_pre rfl harr hlen hall
  have hsm : xs.length < 2 ^ 31 := hx.choose_spec.2.2.2
  have hev : (Term.length (.arg 0)).eval args s none [] s = some (.int xs.length.toInt32) := hx.length_eval hb
  have hv := Cond.le_ints hev (show (Term.int 3584).eval args s none [] s = some (.int 3584) from rfl)
  have hd : xs.length.toInt32 ≤ 3584 := by
    simpa [Cond.before, Cond.holds, hv] using hle
  have hN : xs.length ≤ 3584 := (Int32.ofNat_le_ofNat hsm (by decide)).mp (show Int32.ofNat xs.length ≤ Int32.ofNat 3584 from hd)
  exact ⟨b, xs, Cond.one_arg hc (show args[0]? = some (.ref b) from hb), hx, hN, h⟩
theorem lw_comes (l : Launch) (hflags : l.flags = flags0) : Comes l x (Jvm.Cond.code x code maxLocals ret :: tables_1) room_1 (fun tb e args s => Calls_1 tb e args s ∧ rest_1 tb e args s ∧ Pre_1 tb e args s)
    (fun _ _ args s o t => lw_QQ args s o t) := by
  intro p e ha hc hk s m args below hf hfit hheap happ hpre
  obtain ⟨b, xs, hP⟩ := lw_pre_spec hpre.2.2 hpre.2.1
  obtain ⟨k, o, h1, h2, h3, hQ⟩ := lw_walk l hflags b xs p e ha hc hk s m args below hf ((Spec.applies_iff_loose hf).mp happ).1 hP trivial
  exact ⟨k, o, h1, h2, h3, hQ⟩
theorem lw_frame {s t : State} {o : Outcome} {args : Array Value} (h : Framed s o t [] 601024 7293033) :
    Framed s o t (fieldLocs frame_1_writes args s ++ arrayLocs frame_1_arrays args s ++ staticLocs frame_1_statics s) 601024 7293033 := h
theorem lw_limb (L : Cond) (hL : ∀ (args : Array Value) (s t : State), L.after args s (.returned (some (.int 1))) t = true) :
    ArmFor flags0 classFile x code maxLocals ret World_1 tables_1 room_1 Calls_1 rest_1 Pre_1
      (fun tb e a s o t => postC L tb e a s o t ∧ Framed s o t (fieldLocs frame_1_writes a s ++ arrayLocs frame_1_arrays a s ++ staticLocs frame_1_statics s) 601024 7293033) := by
  intro l hflags _ _ p e ha hc hk s m args below hf hfit hheap happ hpre
  obtain ⟨k, o, h1, h2, h3, rfl, hF⟩ := lw_comes l hflags p e ha hc hk s m args below hf hfit hheap happ hpre
  exact ⟨k, _, h1, h2, h3, hL args s _, lw_frame hF⟩
theorem i_vc : Claimed_1_1 ∧ Claimed_1_2 := ⟨lw_limb limb_1_1 (fun args s t => by simp [limb_1_1, Cond.after, Cond.holds, Cond.value]), lw_limb limb_1_2 (fun args s t => Cond.after_iff.mpr (by
  first | (rw [show limb_1_2 = Cond.eq .result (.int 1) from rfl, Cond.eq_ints (x := 1) (y := 1) rfl rfl]; simp; done) | (simp [limb_1_2, Cond.value, Term.eval]; done)))⟩
