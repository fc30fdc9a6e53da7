/-! The law, from its entry. -/
theorem zi_d23 : decode code 23 = .ok (.iload 4, 2) := by decide +kernel
theorem zi_d25 : decode code 25 = .ok (.aload_n 0, 1) := by decide +kernel
theorem zi_d26 : decode code 26 = .ok (.arraylength, 1) := by decide +kernel
theorem zi_d27 : decode code 27 = .ok (.bipush 7, 2) := by decide +kernel
theorem zi_d29 : decode code 29 = .ok (.isub, 1) := by decide +kernel
theorem zi_d30 : decode code 30 = .ok (.if_icmp .gt 1402, 3) := by decide +kernel
theorem zi_d33 : decode code 33 = .ok (.aload_n 0, 1) := by decide +kernel
theorem zi_d34 : decode code 34 = .ok (.iload 4, 2) := by decide +kernel
theorem zi_d36 : decode code 36 = .ok (.iaload, 1) := by decide +kernel
theorem zi_d37 : decode code 37 = .ok (.bipush 63, 2) := by decide +kernel
theorem zi_d39 : decode code 39 = .ok (.iand, 1) := by decide +kernel
theorem zi_d40 : decode code 40 = .ok (.tableswitch 1386 0 32 #[148, 295, 308, 321, 334, 359, 396, 421, 458, 483, 520, 557, 594, 607, 656, 705, 730, 743, 756, 817, 858, 907, 956, 1036, 1073, 1110, 1135, 1184, 1197, 1210, 1259, 1308, 1361], 148) := by decide +kernel
theorem zi_d1432 : decode code 1432 = .ok (.iconst 1, 1) := by decide +kernel
section ZF
variable {p : Program} {l : Launch} {e : Env} {s : State} {m : MethodId} {below : List Frame} {meth : Method} {c : Code} {D : va_G} {dA : Nat → ClassId} {adK adV : Nat → Nat} {b : Nat} {sl : List zi_V} {xs : Nat → Int32}
theorem zi_main (hflags : l.flags = flags0) (hY : zi_Y s.heap.size s) {L : Nat} (hL : L ≤ 7) (C : zi_Cx p room_1 s m #[Value.ref b] meth c s.heap.size D dA adK adV b zi_mlaw 40 []) (hX : va_X b L xs s s.heap) (hbl : b < s.heap.size) {ws : va_W} {H : Heap} {locs : List Loc} {ls : Array Slot} {sc : List Value} (hS : zi_St s.heap.size D dA adK adV b 7 s zi_f0 ws H locs ls sc) : zi_W p l e room_1 s m #[Value.ref b] below meth c (lw_Z below #[Value.ref b] s) 100 177797 23 H locs ls sc := by
  obtain ⟨⟨hx, hb, hml, hret, hown, hts, hlk, hnm⟩, -⟩ := id C
  obtain ⟨h1, h2, h3, h4, ⟨lv, h5, h7⟩, h6⟩ := id hS
  have e0 := zi_F2_nil h6
  subst e0
  obtain ⟨k4, w4, g4, v4⟩ := zi_loc_get (i := 4) (v := .inl (.int 0)) h7 rfl
  obtain ⟨k0, w0, g0, a0, v0, r0⟩ := zi_loc_get (i := 0) (v := .inl (.ref 8)) h7 rfl
  have v4 : w4 = .int 0 := v4
  subst v4
  have ea := zi_ad_scr v0
  subst ea
  subst r0
  have l4 := lv_at h5 k4 g4
  have l0 := lv_at h5 k0 g0
  refine lv_iload hx hb zi_d23 l4 ?_
  refine lv_aload_n hx hb zi_d25 rfl l0 ?_
  refine va_slen hx hb hX hbl (Nat.not_le.mpr hbl) h3 zi_d26 ?_
  refine lv_bipush (v := 7) hx hb zi_d27 (by decide) ?_
  refine lv_isub hx hb zi_d29 ?_
  refine lv_icmp_gt (tgt := 1432) hx hb zi_d30 (by decide) (fun cgt => ?_) (fun cgt => ?_)
  · refine lv_iconst (v := 1) hx hb zi_d1432 (by decide) ?_
    exact zi_end C (Nat.le_of_ble_eq_true rfl) (Nat.le_of_ble_eq_true rfl) h3
  · have e7 : L = 7 := by
      rcases (show L = 0 ∨ L = 1 ∨ L = 2 ∨ L = 3 ∨ L = 4 ∨ L = 5 ∨ L = 6 ∨ L = 7 by omega) with z | z | z | z | z | z | z | z
      · subst z; exact absurd (by decide) cgt
      · subst z; exact absurd (by decide) cgt
      · subst z; exact absurd (by decide) cgt
      · subst z; exact absurd (by decide) cgt
      · subst z; exact absurd (by decide) cgt
      · subst z; exact absurd (by decide) cgt
      · subst z; exact absurd (by decide) cgt
      · exact z
    subst e7
    refine lv_aload_n hx hb zi_d33 rfl l0 ?_
    refine lv_iload hx hb zi_d34 l4 ?_
    refine va_sld hx hb hX hbl (Nat.not_le.mpr hbl) h3 (by unfold vp_in; decide) zi_d36 ?_
    refine lv_bipush (v := 63) hx hb zi_d37 (by decide) ?_
    refine lv_iand hx hb zi_d39 ?_
    obtain ⟨j, hj, ej⟩ := pk_andE (xs (Int32.toNatClampNeg 0)) (m := 63) 6 (by decide)
    rw [ej]
    rcases (show j = 0 ∨ j = 1 ∨ j = 2 ∨ j = 3 ∨ j = 4 ∨ j = 5 ∨ j = 6 ∨ j = 7 ∨ j = 8 ∨ j = 9 ∨ j = 10 ∨ j = 11 ∨ j = 12 ∨ j = 13 ∨ j = 14 ∨ j = 15 ∨ j = 16 ∨ j = 17 ∨ j = 18 ∨ j = 19 ∨ j = 20 ∨ j = 21 ∨ j = 22 ∨ j = 23 ∨ j = 24 ∨ j = 25 ∨ j = 26 ∨ j = 27 ∨ j = 28 ∨ j = 29 ∨ j = 30 ∨ j = 31 ∨ j = 32 ∨ 33 ≤ j by omega) with z | z | z | z | z | z | z | z | z | z | z | z | z | z | z | z | z | z | z | z | z | z | z | z | z | z | z | z | z | z | z | z | z | z
    · subst z
      refine lv_tableIn (tgt := 188) (off := 148) hx hb zi_d40 (by decide) (by decide) (by decide) (by decide) ?_
      exact zi_op0 C hX hbl hS
    · subst z
      refine lv_tableIn (tgt := 335) (off := 295) hx hb zi_d40 (by decide) (by decide) (by decide) (by decide) ?_
      exact zi_op1 C hX hbl hS
    · subst z
      refine lv_tableIn (tgt := 348) (off := 308) hx hb zi_d40 (by decide) (by decide) (by decide) (by decide) ?_
      exact zi_op2 C hX hbl hS
    · subst z
      refine lv_tableIn (tgt := 361) (off := 321) hx hb zi_d40 (by decide) (by decide) (by decide) (by decide) ?_
      exact zi_op3 C hX hbl hS
    · subst z
      refine lv_tableIn (tgt := 374) (off := 334) hx hb zi_d40 (by decide) (by decide) (by decide) (by decide) ?_
      exact zi_op4 C hX hbl hS
    · subst z
      refine lv_tableIn (tgt := 399) (off := 359) hx hb zi_d40 (by decide) (by decide) (by decide) (by decide) ?_
      exact zi_op5 C hX hbl hS
    · subst z
      refine lv_tableIn (tgt := 436) (off := 396) hx hb zi_d40 (by decide) (by decide) (by decide) (by decide) ?_
      exact zi_op6 C hX hbl hS
    · subst z
      refine lv_tableIn (tgt := 461) (off := 421) hx hb zi_d40 (by decide) (by decide) (by decide) (by decide) ?_
      exact zi_op7 C hX hbl hS
    · subst z
      refine lv_tableIn (tgt := 498) (off := 458) hx hb zi_d40 (by decide) (by decide) (by decide) (by decide) ?_
      exact zi_op8 C hX hbl hS
    · subst z
      refine lv_tableIn (tgt := 523) (off := 483) hx hb zi_d40 (by decide) (by decide) (by decide) (by decide) ?_
      exact zi_op9 C hX hbl hS
    · subst z
      refine lv_tableIn (tgt := 560) (off := 520) hx hb zi_d40 (by decide) (by decide) (by decide) (by decide) ?_
      exact zi_op10 C hX hbl hS
    · subst z
      refine lv_tableIn (tgt := 597) (off := 557) hx hb zi_d40 (by decide) (by decide) (by decide) (by decide) ?_
      exact zi_op11 C hX hbl hS
    · subst z
      refine lv_tableIn (tgt := 634) (off := 594) hx hb zi_d40 (by decide) (by decide) (by decide) (by decide) ?_
      exact zi_op12 C hX hbl hS
    · subst z
      refine lv_tableIn (tgt := 647) (off := 607) hx hb zi_d40 (by decide) (by decide) (by decide) (by decide) ?_
      exact zi_op13 C hX hbl hS
    · subst z
      refine lv_tableIn (tgt := 696) (off := 656) hx hb zi_d40 (by decide) (by decide) (by decide) (by decide) ?_
      exact zi_op14 C hX hbl hS
    · subst z
      refine lv_tableIn (tgt := 745) (off := 705) hx hb zi_d40 (by decide) (by decide) (by decide) (by decide) ?_
      exact zi_op15 C hX hbl hS
    · subst z
      refine lv_tableIn (tgt := 770) (off := 730) hx hb zi_d40 (by decide) (by decide) (by decide) (by decide) ?_
      exact zi_op16 C hX hbl hS
    · subst z
      refine lv_tableIn (tgt := 783) (off := 743) hx hb zi_d40 (by decide) (by decide) (by decide) (by decide) ?_
      exact zi_op17 C hX hbl hS
    · subst z
      refine lv_tableIn (tgt := 796) (off := 756) hx hb zi_d40 (by decide) (by decide) (by decide) (by decide) ?_
      exact zi_op18 C hX hbl hS
    · subst z
      refine lv_tableIn (tgt := 857) (off := 817) hx hb zi_d40 (by decide) (by decide) (by decide) (by decide) ?_
      exact zi_op19 C hX hbl hS
    · subst z
      refine lv_tableIn (tgt := 898) (off := 858) hx hb zi_d40 (by decide) (by decide) (by decide) (by decide) ?_
      exact zi_op20 C hX hbl hS
    · subst z
      refine lv_tableIn (tgt := 947) (off := 907) hx hb zi_d40 (by decide) (by decide) (by decide) (by decide) ?_
      exact zi_op21 C hX hbl hS
    · subst z
      refine lv_tableIn (tgt := 996) (off := 956) hx hb zi_d40 (by decide) (by decide) (by decide) (by decide) ?_
      exact zi_op22 hflags hY C hX hbl hS
    · subst z
      refine lv_tableIn (tgt := 1076) (off := 1036) hx hb zi_d40 (by decide) (by decide) (by decide) (by decide) ?_
      exact zi_op23 C hX hbl hS
    · subst z
      refine lv_tableIn (tgt := 1113) (off := 1073) hx hb zi_d40 (by decide) (by decide) (by decide) (by decide) ?_
      exact zi_op24 C hX hbl hS
    · subst z
      refine lv_tableIn (tgt := 1150) (off := 1110) hx hb zi_d40 (by decide) (by decide) (by decide) (by decide) ?_
      exact zi_op25 C hX hbl hS
    · subst z
      refine lv_tableIn (tgt := 1175) (off := 1135) hx hb zi_d40 (by decide) (by decide) (by decide) (by decide) ?_
      exact zi_op26 C hX hbl hS
    · subst z
      refine lv_tableIn (tgt := 1224) (off := 1184) hx hb zi_d40 (by decide) (by decide) (by decide) (by decide) ?_
      exact zi_op27 C hX hbl hS
    · subst z
      refine lv_tableIn (tgt := 1237) (off := 1197) hx hb zi_d40 (by decide) (by decide) (by decide) (by decide) ?_
      exact zi_op28 C hX hbl hS
    · subst z
      refine lv_tableIn (tgt := 1250) (off := 1210) hx hb zi_d40 (by decide) (by decide) (by decide) (by decide) ?_
      exact zi_op29 C hX hbl hS
    · subst z
      refine lv_tableIn (tgt := 1299) (off := 1259) hx hb zi_d40 (by decide) (by decide) (by decide) (by decide) ?_
      exact zi_op30 C hX hbl hS
    · subst z
      refine lv_tableIn (tgt := 1348) (off := 1308) hx hb zi_d40 (by decide) (by decide) (by decide) (by decide) ?_
      exact zi_op31 C hX hbl hS
    · subst z
      refine lv_tableIn (tgt := 1401) (off := 1361) hx hb zi_d40 (by decide) (by decide) (by decide) (by decide) ?_
      exact zi_op32 C hX hbl hS
    · refine lv_tableOut (tgt := 1426) hx hb zi_d40 (Or.inr ?_) (by decide) ?_
      · rw [nI_toInt (by omega)]; omega
      · exact zi_op99 C hX hbl hS
end ZF
theorem whole_start {p : Program} {e : Env} {s : State} {m : MethodId} {below : List Frame} {meth : Method} {c : Code} (l : Launch) (hflags : l.flags = flags0) {b L : Nat} {xs : Nat → Int32} (hL : L ≤ 7) (C0 : lw_At p s m meth c b L xs) : W p l e room_1 s m #[Value.ref b] below meth c s.heap [] 0 0 (lw_Z below #[Value.ref b] s) (entryFrame m ([Value.ref b] : List Value).toArray 7) := by
  obtain ⟨hx, hb, hr, hml, hown, hts, hX, hbl, hlocks, hgv, hname⟩ := C0
  obtain ⟨D, dA, adK, adV, hX0⟩ := zi_X_ex hts hgv
  have C : zi_Cx p room_1 s m #[Value.ref b] meth c s.heap.size D dA adK adV b zi_mlaw 40 [] := ⟨⟨hx, hb, hml, hr, hown, fun w hw => hts w (List.mem_filter.mp hw).1, hlocks, hname⟩, hX0, ⟨Nat.le_of_ble_eq_true rfl, Nat.le_of_ble_eq_true rfl⟩, Or.inl rfl⟩
  have hl := lv_entry ([.ref b]) (n := 7) (Nat.le_of_ble_eq_true rfl)
  rw [lg_entry_eq]
  generalize (lg_sl ([.ref b]) ++ List.replicate (7 - (lg_sl ([.ref b])).length) Slot.unset).toArray = ls at hl ⊢
  have hl : lv_has ls 7 [(0, .ref b)] := hl
  have hS0 : zi_St s.heap.size D dA adK adV b 7 s (0, [(0, .inl (.ref 8))], [], [], 0, 0) [] s.heap [] ls [] := ⟨fun k q h => by simp at h, ⟨fun i j p q h => by simp at h, fun k q h => by simp at h⟩, va_S.rf, trivial, ⟨_, hl, ⟨⟨rfl, ⟨b, rfl, rfl⟩⟩, trivial⟩⟩, trivial⟩
  exact (zi_run_go (l := l) (e := e) (below := below) C zi_call_ok (fun mi N hN => (zi_Ms_ok mi N hN).1) zi_law_ok 13 zi_run0).1 _ [] s.heap [] ls [] hS0 (Nat.le_of_ble_eq_true rfl) (Nat.le_of_ble_eq_true rfl) (fun ws H locs ls sc hex hS => zi_main hflags (zi_Y_ex hts hgv) hL C hX hbl hS)
