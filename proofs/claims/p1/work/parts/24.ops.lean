/-! THE CLAIM OUT OF ONE WALK OF THE LAW'S BODY. Your part is whole_start (and what it stands on); all else here is the same for every law, but numbers. -/
def R_law : String := "AgreeToldLaw"
def lw_P (b : Addr) (xs : List Int32) (args : Array Value) (s : State) : Prop := args = #[.ref b] ∧ s.IntsAt b xs ∧ xs.length ≤ 7 ∧ (Jvm.Cond.and given_1 narrow_1).before args s = true
def lw_Q (_ : Array Value) (s : State) (o : Outcome) (t : State) : Prop := o = .returned (some (.int 1)) ∧ Framed s o t [] 600002 7302232
def lw_Z (below : List Frame) (a : Array Value) (s : State) : State → Prop := fun t => ∃ o, t.status = .running ∧ Ended t below o ∧ lw_Q a s o t
/-- the law's own end, with 1 on the stack, nothing written that was there before, its room as the claim has it -/
theorem lw_ret {p : Program} {l : Launch} {e : Env} {s : State} {m : MethodId} {below : List Frame} {meth : Method} {c : Code} {b : Nat} (hx : p.tables.exec = Jvm.exec) (hb : c.code = code) (hr : meth.sig.returnType = ret) (hlocks : meth.locks = false) {pc : Nat} {H : Heap} {ls : Array Slot} (hdg : decode code pc = .ok (.ireturn, 1)) : W p l e room_1 s m #[Value.ref b] below meth c H [] 600002 7302232 (lw_Z below #[Value.ref b] s) (F0 m pc ls [.int 1]) := by
  intro T hT X
  obtain ⟨fs, hret, hrun, hended, hW, hframe⟩ := X.leave (v := some (.int 1)) (hlocks := hlocks) (fun h => by rw [hr] at h; cases h)
  have hmeth' : T.vm.method? m = some meth := X.method'
  refine ⟨T.setFrames fs, ?_, .returned (some (.int 1)), hrun, hended, rfl, ⟨_, rfl⟩, hW, hframe⟩
  jvm_step X.here [X.here.top, hx, hb, hdg, hmeth', hr, ret, narrow_b1]
  (try refine ⟨rfl, ?_⟩); (try refine ⟨rfl, ?_⟩)
  first | (intro acts; rw [hret _ acts rfl rfl rfl]) | rw [hret _ _ rfl rfl rfl]
  exact Steps.refl _
/-- what holds at the law's entry: the machine, the code, the tables' words (any of lw_tbl by 'hts w (by decide +kernel)'), the script of L ints xs at the cell b, what the Statement gives of the start (any of its parts by flat_of_before) -/
def lw_At (p : Program) (s : State) (m : MethodId) (meth : Method) (c : Code) (b L : Nat) (xs : Nat → Int32) : Prop :=
  p.tables.exec = Jvm.exec ∧ c.code = code ∧ meth.sig.returnType = ret ∧ c.maxLocals = 7 ∧ s.vm.findClass R_law = some m.cls ∧ (∀ w ∈ lw_tbl, w.before #[Value.ref b] s = true) ∧ va_X b L xs s s.heap ∧ b < s.heap.size ∧ meth.locks = false ∧ (Jvm.Cond.and given_1 narrow_1).before #[Value.ref b] s = true ∧ meth.name = x.name
/-! The end of a run, and the calls one by one. -/
theorem zi_d1433 : decode code 1433 = .ok (.ireturn, 1) := by decide +kernel
section ZF
variable {p : Program} {l : Launch} {e : Env} {s : State} {m : MethodId} {below : List Frame} {meth : Method} {c : Code} {D : va_G} {dA : Nat → ClassId} {adK adV : Nat → Nat} {b : Nat} {sl : List zi_V} {xs : Nat → Int32}
theorem zi_end (C : zi_Cx p room_1 s m #[Value.ref b] meth c s.heap.size D dA adK adV b zi_mlaw 40 sl) {nc ns : Nat} (hc : nc ≤ 600002) (hs : ns ≤ 7302232) {H : Heap} {locs : List Loc} {ls : Array Slot} (hS : va_S (fun q => s.heap.size ≤ q) s.heap H locs) : zi_W p l e room_1 s m #[Value.ref b] below meth c (lw_Z below #[Value.ref b] s) nc ns 1433 H locs ls [.int 1] := by
  obtain ⟨⟨hx, hb, hml, hret, hown, hts, hlk, hnm⟩, -⟩ := C
  refine va_forget (fun q hq => hS.2.2 q hq) ?_
  refine W.widen (k := 600002) (n := 7302232) hc hs ?_
  exact lw_ret hx hb hret hlk zi_d1433
theorem zi_call_ok : zi_Ct l zi_Ms 40 zi_call := zi_ev_ok zi_Ms_ok 100000 40
theorem zi_fin_ok (C : zi_Cx p room_1 s m #[Value.ref b] meth c s.heap.size D dA adK adV b zi_mlaw 40 sl) {n : Nat} {f : zi_F} (h : zi_fin sl n f = true) {ws : va_W} {H : Heap} {locs : List Loc} {ls : Array Slot} {sc : List Value} (hS : zi_St s.heap.size D dA adK adV b 7 s f ws H locs ls sc) : zi_W p l e room_1 s m #[Value.ref b] below meth c (lw_Z below #[Value.ref b] s) f.2.2.2.2.1 f.2.2.2.2.2 f.1 H locs ls sc := by
  unfold zi_fin at h
  split at h
  · rename_i g hg
    simp only [Bool.and_eq_true] at h
    have e1 := Nat.eq_of_beq_eq_true h.1.1.1
    have e2 := zi_lb_ok (fun _ _ => zi_vb_ok) h.1.1.2
    have c1 := Nat.le_of_ble_eq_true h.1.2
    have c2 := Nat.le_of_ble_eq_true h.2
    refine (zi_run_go (l := l) (e := e) (below := below) C zi_call_ok (fun mi N hN => (zi_Ms_ok mi N hN).1) zi_law_ok n hg).1 _ ws H locs ls sc hS c1 c2 (fun ws' H' locs' ls' sc' hex hS' => ?_)
    obtain ⟨h1, h2, h3, h4, h5, h6⟩ := hS'
    rw [e2] at h6
    obtain ⟨w, t, e3, hw, h7⟩ := zi_F2_cons h6
    have e4 := zi_F2_nil h7
    have hw : w = .int 1 := hw
    rw [e3, e4, hw, e1]
    exact zi_end C c1 c2 h3
  · cases h
theorem zi_f0_at {t : Nat} {ws : va_W} {H : Heap} {locs : List Loc} {ls : Array Slot} {sc : List Value} (hS : zi_St s.heap.size D dA adK adV b 7 s zi_f0 ws H locs ls sc) : zi_St s.heap.size D dA adK adV b 7 s (t, zi_al0, [], zi_A0, 100, 177797) ws H locs ls sc := hS
/-- the script as values of a kind -/
theorem zi_scr (C : zi_Cx p room_1 s m #[Value.ref b] meth c s.heap.size D dA adK adV b zi_mlaw 40 []) (hX : va_X b 7 xs s s.heap) (hbl : b < s.heap.size) {v0 v1 v2 v3 v4 v5 v6 : zi_V} (h0 : ∀ ad, zi_vr ad v0 (.int (xs 0))) (h1 : ∀ ad, zi_vr ad v1 (.int (xs 1))) (h2 : ∀ ad, zi_vr ad v2 (.int (xs 2))) (h3 : ∀ ad, zi_vr ad v3 (.int (xs 3))) (h4 : ∀ ad, zi_vr ad v4 (.int (xs 4))) (h5 : ∀ ad, zi_vr ad v5 (.int (xs 5))) (h6 : ∀ ad, zi_vr ad v6 (.int (xs 6))) : zi_Cx p room_1 s m #[Value.ref b] meth c s.heap.size D dA adK adV b zi_mlaw 40 [v0, v1, v2, v3, v4, v5, v6] := by
  refine ⟨C.1, C.2.1, C.2.2.1, Or.inr ⟨xs, hX, hbl, hbl, fun ad j v hj => ?_⟩⟩
  match j, hj with
  | 0, hj => cases hj; exact h0 ad
  | 1, hj => cases hj; exact h1 ad
  | 2, hj => cases hj; exact h2 ad
  | 3, hj => cases hj; exact h3 ad
  | 4, hj => cases hj; exact h4 ad
  | 5, hj => cases hj; exact h5 ad
  | 6, hj => cases hj; exact h6 ad
  | j + 7, hj => simp at hj
theorem zi_bd (x : Int32) : -2147483648 ≤ x.toInt ∧ x.toInt ≤ 2147483647 := ⟨by have := Int32.le_toInt x; omega, by have := Int32.toInt_lt x; omega⟩
theorem zi_ri {x lo hi : Int32} {a z : Int} (hl : lo.toInt = a) (hh : hi.toInt = z) (h1 : a ≤ x.toInt) (h2 : x.toInt ≤ z) : ∀ ad, zi_vr ad (.inr (lo, hi)) (.int x) := fun _ => ⟨x, rfl, by rw [zi_ile, hl]; exact h1, by rw [zi_ile, hh]; exact h2⟩
theorem zi_re {x k : Int32} {a : Int} (hk : k.toInt = a) (h : x.toInt = a) : ∀ ad, zi_vr ad (.inl (.int k)) (.int x) := fun _ => by
  have e1 : x = k := by rw [zi_ieq, hk, h]
  rw [e1]
  rfl
theorem zi_ra (x : Int32) : ∀ ad, zi_vr ad zi_any (.int x) := zi_ri (a := -2147483648) (z := 2147483647) (by decide) (by decide) (zi_bd x).1 (zi_bd x).2
theorem zi_op1 (C : zi_Cx p room_1 s m #[Value.ref b] meth c s.heap.size D dA adK adV b zi_mlaw 40 []) (hX : va_X b 7 xs s s.heap) (hbl : b < s.heap.size) {ws : va_W} {H : Heap} {locs : List Loc} {ls : Array Slot} {sc : List Value} (hS : zi_St s.heap.size D dA adK adV b 7 s zi_f0 ws H locs ls sc) : zi_W p l e room_1 s m #[Value.ref b] below meth c (lw_Z below #[Value.ref b] s) 100 177797 335 H locs ls sc := by
  have b1 := zi_bd (xs 1)
  have b2 := zi_bd (xs 2)
  have b3 := zi_bd (xs 3)
  exact zi_fin_ok (zi_scr C hX hbl (zi_ra (xs 0)) (zi_ra (xs 1)) (zi_ra (xs 2)) (zi_ra (xs 3)) (zi_ra (xs 4)) (zi_ra (xs 5)) (zi_ra (xs 6))) zi_o1_0 (zi_f0_at hS)
theorem zi_op2 (C : zi_Cx p room_1 s m #[Value.ref b] meth c s.heap.size D dA adK adV b zi_mlaw 40 []) (hX : va_X b 7 xs s s.heap) (hbl : b < s.heap.size) {ws : va_W} {H : Heap} {locs : List Loc} {ls : Array Slot} {sc : List Value} (hS : zi_St s.heap.size D dA adK adV b 7 s zi_f0 ws H locs ls sc) : zi_W p l e room_1 s m #[Value.ref b] below meth c (lw_Z below #[Value.ref b] s) 100 177797 348 H locs ls sc := by
  have b1 := zi_bd (xs 1)
  have b2 := zi_bd (xs 2)
  have b3 := zi_bd (xs 3)
  exact zi_fin_ok (zi_scr C hX hbl (zi_ra (xs 0)) (zi_ra (xs 1)) (zi_ra (xs 2)) (zi_ra (xs 3)) (zi_ra (xs 4)) (zi_ra (xs 5)) (zi_ra (xs 6))) zi_o2_1 (zi_f0_at hS)
theorem zi_op3 (C : zi_Cx p room_1 s m #[Value.ref b] meth c s.heap.size D dA adK adV b zi_mlaw 40 []) (hX : va_X b 7 xs s s.heap) (hbl : b < s.heap.size) {ws : va_W} {H : Heap} {locs : List Loc} {ls : Array Slot} {sc : List Value} (hS : zi_St s.heap.size D dA adK adV b 7 s zi_f0 ws H locs ls sc) : zi_W p l e room_1 s m #[Value.ref b] below meth c (lw_Z below #[Value.ref b] s) 100 177797 361 H locs ls sc := by
  have b1 := zi_bd (xs 1)
  have b2 := zi_bd (xs 2)
  have b3 := zi_bd (xs 3)
  exact zi_fin_ok (zi_scr C hX hbl (zi_ra (xs 0)) (zi_ra (xs 1)) (zi_ra (xs 2)) (zi_ra (xs 3)) (zi_ra (xs 4)) (zi_ra (xs 5)) (zi_ra (xs 6))) zi_o3_2 (zi_f0_at hS)
theorem zi_op4 (C : zi_Cx p room_1 s m #[Value.ref b] meth c s.heap.size D dA adK adV b zi_mlaw 40 []) (hX : va_X b 7 xs s s.heap) (hbl : b < s.heap.size) {ws : va_W} {H : Heap} {locs : List Loc} {ls : Array Slot} {sc : List Value} (hS : zi_St s.heap.size D dA adK adV b 7 s zi_f0 ws H locs ls sc) : zi_W p l e room_1 s m #[Value.ref b] below meth c (lw_Z below #[Value.ref b] s) 100 177797 374 H locs ls sc := by
  have b1 := zi_bd (xs 1)
  have b2 := zi_bd (xs 2)
  have b3 := zi_bd (xs 3)
  rcases (show (xs 1).toInt ≤ (-1) ∨ 0 ≤ (xs 1).toInt by omega) with h0 | h0
  · skip
    exact zi_fin_ok (zi_scr C hX hbl (zi_ra (xs 0)) (zi_ri (a := (-2147483648)) (z := (-1)) (by decide) (by decide) (by omega) (by omega)) (zi_ra (xs 2)) (zi_ra (xs 3)) (zi_ra (xs 4)) (zi_ra (xs 5)) (zi_ra (xs 6))) zi_o4_3 (zi_f0_at hS)
  · skip
    exact zi_fin_ok (zi_scr C hX hbl (zi_ra (xs 0)) (zi_ri (a := 0) (z := 2147483647) (by decide) (by decide) (by omega) (by omega)) (zi_ra (xs 2)) (zi_ra (xs 3)) (zi_ra (xs 4)) (zi_ra (xs 5)) (zi_ra (xs 6))) zi_o4_4 (zi_f0_at hS)
theorem zi_op5 (C : zi_Cx p room_1 s m #[Value.ref b] meth c s.heap.size D dA adK adV b zi_mlaw 40 []) (hX : va_X b 7 xs s s.heap) (hbl : b < s.heap.size) {ws : va_W} {H : Heap} {locs : List Loc} {ls : Array Slot} {sc : List Value} (hS : zi_St s.heap.size D dA adK adV b 7 s zi_f0 ws H locs ls sc) : zi_W p l e room_1 s m #[Value.ref b] below meth c (lw_Z below #[Value.ref b] s) 100 177797 399 H locs ls sc := by
  have b1 := zi_bd (xs 1)
  have b2 := zi_bd (xs 2)
  have b3 := zi_bd (xs 3)
  rcases (show (xs 1).toInt ≤ (-1) ∨ 0 ≤ (xs 1).toInt by omega) with h0 | h0
  · skip
    exact zi_fin_ok (zi_scr C hX hbl (zi_ra (xs 0)) (zi_ri (a := (-2147483648)) (z := (-1)) (by decide) (by decide) (by omega) (by omega)) (zi_ra (xs 2)) (zi_ra (xs 3)) (zi_ra (xs 4)) (zi_ra (xs 5)) (zi_ra (xs 6))) zi_o5_5 (zi_f0_at hS)
  · skip
    exact zi_fin_ok (zi_scr C hX hbl (zi_ra (xs 0)) (zi_ri (a := 0) (z := 2147483647) (by decide) (by decide) (by omega) (by omega)) (zi_ra (xs 2)) (zi_ra (xs 3)) (zi_ra (xs 4)) (zi_ra (xs 5)) (zi_ra (xs 6))) zi_o5_6 (zi_f0_at hS)
theorem zi_op6 (C : zi_Cx p room_1 s m #[Value.ref b] meth c s.heap.size D dA adK adV b zi_mlaw 40 []) (hX : va_X b 7 xs s s.heap) (hbl : b < s.heap.size) {ws : va_W} {H : Heap} {locs : List Loc} {ls : Array Slot} {sc : List Value} (hS : zi_St s.heap.size D dA adK adV b 7 s zi_f0 ws H locs ls sc) : zi_W p l e room_1 s m #[Value.ref b] below meth c (lw_Z below #[Value.ref b] s) 100 177797 436 H locs ls sc := by
  have b1 := zi_bd (xs 1)
  have b2 := zi_bd (xs 2)
  have b3 := zi_bd (xs 3)
  rcases (show (xs 1).toInt ≤ (-1) ∨ (xs 1).toInt = 0 ∨ (xs 1).toInt = 1 ∨ (xs 1).toInt = 2 ∨ 3 ≤ (xs 1).toInt by omega) with h0 | h0 | h0 | h0 | h0
  · skip
    exact zi_fin_ok (zi_scr C hX hbl (zi_ra (xs 0)) (zi_ri (a := (-2147483648)) (z := (-1)) (by decide) (by decide) (by omega) (by omega)) (zi_ra (xs 2)) (zi_ra (xs 3)) (zi_ra (xs 4)) (zi_ra (xs 5)) (zi_ra (xs 6))) zi_o6_7 (zi_f0_at hS)
  · skip
    exact zi_fin_ok (zi_scr C hX hbl (zi_ra (xs 0)) (zi_re (a := 0) (by decide) h0) (zi_ra (xs 2)) (zi_ra (xs 3)) (zi_ra (xs 4)) (zi_ra (xs 5)) (zi_ra (xs 6))) zi_o6_8 (zi_f0_at hS)
  · skip
    exact zi_fin_ok (zi_scr C hX hbl (zi_ra (xs 0)) (zi_re (a := 1) (by decide) h0) (zi_ra (xs 2)) (zi_ra (xs 3)) (zi_ra (xs 4)) (zi_ra (xs 5)) (zi_ra (xs 6))) zi_o6_9 (zi_f0_at hS)
  · skip
    exact zi_fin_ok (zi_scr C hX hbl (zi_ra (xs 0)) (zi_re (a := 2) (by decide) h0) (zi_ra (xs 2)) (zi_ra (xs 3)) (zi_ra (xs 4)) (zi_ra (xs 5)) (zi_ra (xs 6))) zi_o6_10 (zi_f0_at hS)
  · skip
    exact zi_fin_ok (zi_scr C hX hbl (zi_ra (xs 0)) (zi_ri (a := 3) (z := 2147483647) (by decide) (by decide) (by omega) (by omega)) (zi_ra (xs 2)) (zi_ra (xs 3)) (zi_ra (xs 4)) (zi_ra (xs 5)) (zi_ra (xs 6))) zi_o6_11 (zi_f0_at hS)
theorem zi_op7 (C : zi_Cx p room_1 s m #[Value.ref b] meth c s.heap.size D dA adK adV b zi_mlaw 40 []) (hX : va_X b 7 xs s s.heap) (hbl : b < s.heap.size) {ws : va_W} {H : Heap} {locs : List Loc} {ls : Array Slot} {sc : List Value} (hS : zi_St s.heap.size D dA adK adV b 7 s zi_f0 ws H locs ls sc) : zi_W p l e room_1 s m #[Value.ref b] below meth c (lw_Z below #[Value.ref b] s) 100 177797 461 H locs ls sc := by
  have b1 := zi_bd (xs 1)
  have b2 := zi_bd (xs 2)
  have b3 := zi_bd (xs 3)
  rcases (show (xs 1).toInt ≤ (-1) ∨ 0 ≤ (xs 1).toInt by omega) with h0 | h0
  · skip
    exact zi_fin_ok (zi_scr C hX hbl (zi_ra (xs 0)) (zi_ri (a := (-2147483648)) (z := (-1)) (by decide) (by decide) (by omega) (by omega)) (zi_ra (xs 2)) (zi_ra (xs 3)) (zi_ra (xs 4)) (zi_ra (xs 5)) (zi_ra (xs 6))) zi_o7_12 (zi_f0_at hS)
  · skip
    exact zi_fin_ok (zi_scr C hX hbl (zi_ra (xs 0)) (zi_ri (a := 0) (z := 2147483647) (by decide) (by decide) (by omega) (by omega)) (zi_ra (xs 2)) (zi_ra (xs 3)) (zi_ra (xs 4)) (zi_ra (xs 5)) (zi_ra (xs 6))) zi_o7_13 (zi_f0_at hS)
theorem zi_op8 (C : zi_Cx p room_1 s m #[Value.ref b] meth c s.heap.size D dA adK adV b zi_mlaw 40 []) (hX : va_X b 7 xs s s.heap) (hbl : b < s.heap.size) {ws : va_W} {H : Heap} {locs : List Loc} {ls : Array Slot} {sc : List Value} (hS : zi_St s.heap.size D dA adK adV b 7 s zi_f0 ws H locs ls sc) : zi_W p l e room_1 s m #[Value.ref b] below meth c (lw_Z below #[Value.ref b] s) 100 177797 498 H locs ls sc := by
  have b1 := zi_bd (xs 1)
  have b2 := zi_bd (xs 2)
  have b3 := zi_bd (xs 3)
  rcases (show (xs 1).toInt ≤ (-1) ∨ 0 ≤ (xs 1).toInt by omega) with h0 | h0
  · skip
    exact zi_fin_ok (zi_scr C hX hbl (zi_ra (xs 0)) (zi_ri (a := (-2147483648)) (z := (-1)) (by decide) (by decide) (by omega) (by omega)) (zi_ra (xs 2)) (zi_ra (xs 3)) (zi_ra (xs 4)) (zi_ra (xs 5)) (zi_ra (xs 6))) zi_o8_14 (zi_f0_at hS)
  · skip
    exact zi_fin_ok (zi_scr C hX hbl (zi_ra (xs 0)) (zi_ri (a := 0) (z := 2147483647) (by decide) (by decide) (by omega) (by omega)) (zi_ra (xs 2)) (zi_ra (xs 3)) (zi_ra (xs 4)) (zi_ra (xs 5)) (zi_ra (xs 6))) zi_o8_15 (zi_f0_at hS)
theorem zi_op9 (C : zi_Cx p room_1 s m #[Value.ref b] meth c s.heap.size D dA adK adV b zi_mlaw 40 []) (hX : va_X b 7 xs s s.heap) (hbl : b < s.heap.size) {ws : va_W} {H : Heap} {locs : List Loc} {ls : Array Slot} {sc : List Value} (hS : zi_St s.heap.size D dA adK adV b 7 s zi_f0 ws H locs ls sc) : zi_W p l e room_1 s m #[Value.ref b] below meth c (lw_Z below #[Value.ref b] s) 100 177797 523 H locs ls sc := by
  have b1 := zi_bd (xs 1)
  have b2 := zi_bd (xs 2)
  have b3 := zi_bd (xs 3)
  rcases (show (xs 1).toInt ≤ (-1) ∨ 0 ≤ (xs 1).toInt by omega) with h0 | h0
  · skip
    exact zi_fin_ok (zi_scr C hX hbl (zi_ra (xs 0)) (zi_ri (a := (-2147483648)) (z := (-1)) (by decide) (by decide) (by omega) (by omega)) (zi_ra (xs 2)) (zi_ra (xs 3)) (zi_ra (xs 4)) (zi_ra (xs 5)) (zi_ra (xs 6))) zi_o9_16 (zi_f0_at hS)
  · skip
    exact zi_fin_ok (zi_scr C hX hbl (zi_ra (xs 0)) (zi_ri (a := 0) (z := 2147483647) (by decide) (by decide) (by omega) (by omega)) (zi_ra (xs 2)) (zi_ra (xs 3)) (zi_ra (xs 4)) (zi_ra (xs 5)) (zi_ra (xs 6))) zi_o9_17 (zi_f0_at hS)
theorem zi_op10 (C : zi_Cx p room_1 s m #[Value.ref b] meth c s.heap.size D dA adK adV b zi_mlaw 40 []) (hX : va_X b 7 xs s s.heap) (hbl : b < s.heap.size) {ws : va_W} {H : Heap} {locs : List Loc} {ls : Array Slot} {sc : List Value} (hS : zi_St s.heap.size D dA adK adV b 7 s zi_f0 ws H locs ls sc) : zi_W p l e room_1 s m #[Value.ref b] below meth c (lw_Z below #[Value.ref b] s) 100 177797 560 H locs ls sc := by
  have b1 := zi_bd (xs 1)
  have b2 := zi_bd (xs 2)
  have b3 := zi_bd (xs 3)
  rcases (show (xs 1).toInt ≤ (-1) ∨ 0 ≤ (xs 1).toInt by omega) with h0 | h0
  · skip
    exact zi_fin_ok (zi_scr C hX hbl (zi_ra (xs 0)) (zi_ri (a := (-2147483648)) (z := (-1)) (by decide) (by decide) (by omega) (by omega)) (zi_ra (xs 2)) (zi_ra (xs 3)) (zi_ra (xs 4)) (zi_ra (xs 5)) (zi_ra (xs 6))) zi_o10_18 (zi_f0_at hS)
  · skip
    exact zi_fin_ok (zi_scr C hX hbl (zi_ra (xs 0)) (zi_ri (a := 0) (z := 2147483647) (by decide) (by decide) (by omega) (by omega)) (zi_ra (xs 2)) (zi_ra (xs 3)) (zi_ra (xs 4)) (zi_ra (xs 5)) (zi_ra (xs 6))) zi_o10_19 (zi_f0_at hS)
theorem zi_op11 (C : zi_Cx p room_1 s m #[Value.ref b] meth c s.heap.size D dA adK adV b zi_mlaw 40 []) (hX : va_X b 7 xs s s.heap) (hbl : b < s.heap.size) {ws : va_W} {H : Heap} {locs : List Loc} {ls : Array Slot} {sc : List Value} (hS : zi_St s.heap.size D dA adK adV b 7 s zi_f0 ws H locs ls sc) : zi_W p l e room_1 s m #[Value.ref b] below meth c (lw_Z below #[Value.ref b] s) 100 177797 597 H locs ls sc := by
  have b1 := zi_bd (xs 1)
  have b2 := zi_bd (xs 2)
  have b3 := zi_bd (xs 3)
  rcases (show (xs 1).toInt ≤ (-1) ∨ 0 ≤ (xs 1).toInt by omega) with h0 | h0
  · skip
    exact zi_fin_ok (zi_scr C hX hbl (zi_ra (xs 0)) (zi_ri (a := (-2147483648)) (z := (-1)) (by decide) (by decide) (by omega) (by omega)) (zi_ra (xs 2)) (zi_ra (xs 3)) (zi_ra (xs 4)) (zi_ra (xs 5)) (zi_ra (xs 6))) zi_o11_20 (zi_f0_at hS)
  · skip
    exact zi_fin_ok (zi_scr C hX hbl (zi_ra (xs 0)) (zi_ri (a := 0) (z := 2147483647) (by decide) (by decide) (by omega) (by omega)) (zi_ra (xs 2)) (zi_ra (xs 3)) (zi_ra (xs 4)) (zi_ra (xs 5)) (zi_ra (xs 6))) zi_o11_21 (zi_f0_at hS)
theorem zi_op12 (C : zi_Cx p room_1 s m #[Value.ref b] meth c s.heap.size D dA adK adV b zi_mlaw 40 []) (hX : va_X b 7 xs s s.heap) (hbl : b < s.heap.size) {ws : va_W} {H : Heap} {locs : List Loc} {ls : Array Slot} {sc : List Value} (hS : zi_St s.heap.size D dA adK adV b 7 s zi_f0 ws H locs ls sc) : zi_W p l e room_1 s m #[Value.ref b] below meth c (lw_Z below #[Value.ref b] s) 100 177797 634 H locs ls sc := by
  have b1 := zi_bd (xs 1)
  have b2 := zi_bd (xs 2)
  have b3 := zi_bd (xs 3)
  exact zi_fin_ok (zi_scr C hX hbl (zi_ra (xs 0)) (zi_ra (xs 1)) (zi_ra (xs 2)) (zi_ra (xs 3)) (zi_ra (xs 4)) (zi_ra (xs 5)) (zi_ra (xs 6))) zi_o12_22 (zi_f0_at hS)
theorem zi_op13 (C : zi_Cx p room_1 s m #[Value.ref b] meth c s.heap.size D dA adK adV b zi_mlaw 40 []) (hX : va_X b 7 xs s s.heap) (hbl : b < s.heap.size) {ws : va_W} {H : Heap} {locs : List Loc} {ls : Array Slot} {sc : List Value} (hS : zi_St s.heap.size D dA adK adV b 7 s zi_f0 ws H locs ls sc) : zi_W p l e room_1 s m #[Value.ref b] below meth c (lw_Z below #[Value.ref b] s) 100 177797 647 H locs ls sc := by
  have b1 := zi_bd (xs 1)
  have b2 := zi_bd (xs 2)
  have b3 := zi_bd (xs 3)
  rcases (show (xs 1).toInt ≤ (-1) ∨ 0 ≤ (xs 1).toInt by omega) with h0 | h0
  · skip
    exact zi_fin_ok (zi_scr C hX hbl (zi_ra (xs 0)) (zi_ri (a := (-2147483648)) (z := (-1)) (by decide) (by decide) (by omega) (by omega)) (zi_ra (xs 2)) (zi_ra (xs 3)) (zi_ra (xs 4)) (zi_ra (xs 5)) (zi_ra (xs 6))) zi_o13_23 (zi_f0_at hS)
  · skip
    exact zi_fin_ok (zi_scr C hX hbl (zi_ra (xs 0)) (zi_ri (a := 0) (z := 2147483647) (by decide) (by decide) (by omega) (by omega)) (zi_ra (xs 2)) (zi_ra (xs 3)) (zi_ra (xs 4)) (zi_ra (xs 5)) (zi_ra (xs 6))) zi_o13_24 (zi_f0_at hS)
theorem zi_op14 (C : zi_Cx p room_1 s m #[Value.ref b] meth c s.heap.size D dA adK adV b zi_mlaw 40 []) (hX : va_X b 7 xs s s.heap) (hbl : b < s.heap.size) {ws : va_W} {H : Heap} {locs : List Loc} {ls : Array Slot} {sc : List Value} (hS : zi_St s.heap.size D dA adK adV b 7 s zi_f0 ws H locs ls sc) : zi_W p l e room_1 s m #[Value.ref b] below meth c (lw_Z below #[Value.ref b] s) 100 177797 696 H locs ls sc := by
  have b1 := zi_bd (xs 1)
  have b2 := zi_bd (xs 2)
  have b3 := zi_bd (xs 3)
  rcases (show (xs 1).toInt ≤ (-1) ∨ 0 ≤ (xs 1).toInt by omega) with h0 | h0
  · skip
    exact zi_fin_ok (zi_scr C hX hbl (zi_ra (xs 0)) (zi_ri (a := (-2147483648)) (z := (-1)) (by decide) (by decide) (by omega) (by omega)) (zi_ra (xs 2)) (zi_ra (xs 3)) (zi_ra (xs 4)) (zi_ra (xs 5)) (zi_ra (xs 6))) zi_o14_25 (zi_f0_at hS)
  · skip
    exact zi_fin_ok (zi_scr C hX hbl (zi_ra (xs 0)) (zi_ri (a := 0) (z := 2147483647) (by decide) (by decide) (by omega) (by omega)) (zi_ra (xs 2)) (zi_ra (xs 3)) (zi_ra (xs 4)) (zi_ra (xs 5)) (zi_ra (xs 6))) zi_o14_26 (zi_f0_at hS)
theorem zi_op15 (C : zi_Cx p room_1 s m #[Value.ref b] meth c s.heap.size D dA adK adV b zi_mlaw 40 []) (hX : va_X b 7 xs s s.heap) (hbl : b < s.heap.size) {ws : va_W} {H : Heap} {locs : List Loc} {ls : Array Slot} {sc : List Value} (hS : zi_St s.heap.size D dA adK adV b 7 s zi_f0 ws H locs ls sc) : zi_W p l e room_1 s m #[Value.ref b] below meth c (lw_Z below #[Value.ref b] s) 100 177797 745 H locs ls sc := by
  have b1 := zi_bd (xs 1)
  have b2 := zi_bd (xs 2)
  have b3 := zi_bd (xs 3)
  exact zi_fin_ok (zi_scr C hX hbl (zi_ra (xs 0)) (zi_ra (xs 1)) (zi_ra (xs 2)) (zi_ra (xs 3)) (zi_ra (xs 4)) (zi_ra (xs 5)) (zi_ra (xs 6))) zi_o15_27 (zi_f0_at hS)
theorem zi_op16 (C : zi_Cx p room_1 s m #[Value.ref b] meth c s.heap.size D dA adK adV b zi_mlaw 40 []) (hX : va_X b 7 xs s s.heap) (hbl : b < s.heap.size) {ws : va_W} {H : Heap} {locs : List Loc} {ls : Array Slot} {sc : List Value} (hS : zi_St s.heap.size D dA adK adV b 7 s zi_f0 ws H locs ls sc) : zi_W p l e room_1 s m #[Value.ref b] below meth c (lw_Z below #[Value.ref b] s) 100 177797 770 H locs ls sc := by
  have b1 := zi_bd (xs 1)
  have b2 := zi_bd (xs 2)
  have b3 := zi_bd (xs 3)
  exact zi_fin_ok (zi_scr C hX hbl (zi_ra (xs 0)) (zi_ra (xs 1)) (zi_ra (xs 2)) (zi_ra (xs 3)) (zi_ra (xs 4)) (zi_ra (xs 5)) (zi_ra (xs 6))) zi_o16_28 (zi_f0_at hS)
theorem zi_op17 (C : zi_Cx p room_1 s m #[Value.ref b] meth c s.heap.size D dA adK adV b zi_mlaw 40 []) (hX : va_X b 7 xs s s.heap) (hbl : b < s.heap.size) {ws : va_W} {H : Heap} {locs : List Loc} {ls : Array Slot} {sc : List Value} (hS : zi_St s.heap.size D dA adK adV b 7 s zi_f0 ws H locs ls sc) : zi_W p l e room_1 s m #[Value.ref b] below meth c (lw_Z below #[Value.ref b] s) 100 177797 783 H locs ls sc := by
  have b1 := zi_bd (xs 1)
  have b2 := zi_bd (xs 2)
  have b3 := zi_bd (xs 3)
  exact zi_fin_ok (zi_scr C hX hbl (zi_ra (xs 0)) (zi_ra (xs 1)) (zi_ra (xs 2)) (zi_ra (xs 3)) (zi_ra (xs 4)) (zi_ra (xs 5)) (zi_ra (xs 6))) zi_o17_29 (zi_f0_at hS)
theorem zi_op18 (C : zi_Cx p room_1 s m #[Value.ref b] meth c s.heap.size D dA adK adV b zi_mlaw 40 []) (hX : va_X b 7 xs s s.heap) (hbl : b < s.heap.size) {ws : va_W} {H : Heap} {locs : List Loc} {ls : Array Slot} {sc : List Value} (hS : zi_St s.heap.size D dA adK adV b 7 s zi_f0 ws H locs ls sc) : zi_W p l e room_1 s m #[Value.ref b] below meth c (lw_Z below #[Value.ref b] s) 100 177797 796 H locs ls sc := by
  have b1 := zi_bd (xs 1)
  have b2 := zi_bd (xs 2)
  have b3 := zi_bd (xs 3)
  rcases (show (xs 1).toInt ≤ (-1) ∨ 0 ≤ (xs 1).toInt by omega) with h0 | h0
  · skip
    exact zi_fin_ok (zi_scr C hX hbl (zi_ra (xs 0)) (zi_ri (a := (-2147483648)) (z := (-1)) (by decide) (by decide) (by omega) (by omega)) (zi_ra (xs 2)) (zi_ra (xs 3)) (zi_ra (xs 4)) (zi_ra (xs 5)) (zi_ra (xs 6))) zi_o18_30 (zi_f0_at hS)
  · skip
    exact zi_fin_ok (zi_scr C hX hbl (zi_ra (xs 0)) (zi_ri (a := 0) (z := 2147483647) (by decide) (by decide) (by omega) (by omega)) (zi_ra (xs 2)) (zi_ra (xs 3)) (zi_ra (xs 4)) (zi_ra (xs 5)) (zi_ra (xs 6))) zi_o18_31 (zi_f0_at hS)
theorem zi_op19 (C : zi_Cx p room_1 s m #[Value.ref b] meth c s.heap.size D dA adK adV b zi_mlaw 40 []) (hX : va_X b 7 xs s s.heap) (hbl : b < s.heap.size) {ws : va_W} {H : Heap} {locs : List Loc} {ls : Array Slot} {sc : List Value} (hS : zi_St s.heap.size D dA adK adV b 7 s zi_f0 ws H locs ls sc) : zi_W p l e room_1 s m #[Value.ref b] below meth c (lw_Z below #[Value.ref b] s) 100 177797 857 H locs ls sc := by
  have b1 := zi_bd (xs 1)
  have b2 := zi_bd (xs 2)
  have b3 := zi_bd (xs 3)
  rcases (show (xs 1).toInt ≤ (-1) ∨ (xs 1).toInt = 0 ∨ 1 ≤ (xs 1).toInt by omega) with h0 | h0 | h0
  · skip
    exact zi_fin_ok (zi_scr C hX hbl (zi_ra (xs 0)) (zi_ri (a := (-2147483648)) (z := (-1)) (by decide) (by decide) (by omega) (by omega)) (zi_ra (xs 2)) (zi_ra (xs 3)) (zi_ra (xs 4)) (zi_ra (xs 5)) (zi_ra (xs 6))) zi_o19_32 (zi_f0_at hS)
  · skip
    exact zi_fin_ok (zi_scr C hX hbl (zi_ra (xs 0)) (zi_re (a := 0) (by decide) h0) (zi_ra (xs 2)) (zi_ra (xs 3)) (zi_ra (xs 4)) (zi_ra (xs 5)) (zi_ra (xs 6))) zi_o19_33 (zi_f0_at hS)
  · skip
    exact zi_fin_ok (zi_scr C hX hbl (zi_ra (xs 0)) (zi_ri (a := 1) (z := 2147483647) (by decide) (by decide) (by omega) (by omega)) (zi_ra (xs 2)) (zi_ra (xs 3)) (zi_ra (xs 4)) (zi_ra (xs 5)) (zi_ra (xs 6))) zi_o19_34 (zi_f0_at hS)
theorem zi_op20 (C : zi_Cx p room_1 s m #[Value.ref b] meth c s.heap.size D dA adK adV b zi_mlaw 40 []) (hX : va_X b 7 xs s s.heap) (hbl : b < s.heap.size) {ws : va_W} {H : Heap} {locs : List Loc} {ls : Array Slot} {sc : List Value} (hS : zi_St s.heap.size D dA adK adV b 7 s zi_f0 ws H locs ls sc) : zi_W p l e room_1 s m #[Value.ref b] below meth c (lw_Z below #[Value.ref b] s) 100 177797 898 H locs ls sc := by
  have b1 := zi_bd (xs 1)
  have b2 := zi_bd (xs 2)
  have b3 := zi_bd (xs 3)
  rcases (show (xs 1).toInt ≤ (-1) ∨ 0 ≤ (xs 1).toInt by omega) with h0 | h0
  · skip
    exact zi_fin_ok (zi_scr C hX hbl (zi_ra (xs 0)) (zi_ri (a := (-2147483648)) (z := (-1)) (by decide) (by decide) (by omega) (by omega)) (zi_ra (xs 2)) (zi_ra (xs 3)) (zi_ra (xs 4)) (zi_ra (xs 5)) (zi_ra (xs 6))) zi_o20_35 (zi_f0_at hS)
  · skip
    exact zi_fin_ok (zi_scr C hX hbl (zi_ra (xs 0)) (zi_ri (a := 0) (z := 2147483647) (by decide) (by decide) (by omega) (by omega)) (zi_ra (xs 2)) (zi_ra (xs 3)) (zi_ra (xs 4)) (zi_ra (xs 5)) (zi_ra (xs 6))) zi_o20_36 (zi_f0_at hS)
theorem zi_op21 (C : zi_Cx p room_1 s m #[Value.ref b] meth c s.heap.size D dA adK adV b zi_mlaw 40 []) (hX : va_X b 7 xs s s.heap) (hbl : b < s.heap.size) {ws : va_W} {H : Heap} {locs : List Loc} {ls : Array Slot} {sc : List Value} (hS : zi_St s.heap.size D dA adK adV b 7 s zi_f0 ws H locs ls sc) : zi_W p l e room_1 s m #[Value.ref b] below meth c (lw_Z below #[Value.ref b] s) 100 177797 947 H locs ls sc := by
  have b1 := zi_bd (xs 1)
  have b2 := zi_bd (xs 2)
  have b3 := zi_bd (xs 3)
  rcases (show (xs 1).toInt ≤ (-1) ∨ 0 ≤ (xs 1).toInt by omega) with h0 | h0
  · skip
    exact zi_fin_ok (zi_scr C hX hbl (zi_ra (xs 0)) (zi_ri (a := (-2147483648)) (z := (-1)) (by decide) (by decide) (by omega) (by omega)) (zi_ra (xs 2)) (zi_ra (xs 3)) (zi_ra (xs 4)) (zi_ra (xs 5)) (zi_ra (xs 6))) zi_o21_37 (zi_f0_at hS)
  · skip
    exact zi_fin_ok (zi_scr C hX hbl (zi_ra (xs 0)) (zi_ri (a := 0) (z := 2147483647) (by decide) (by decide) (by omega) (by omega)) (zi_ra (xs 2)) (zi_ra (xs 3)) (zi_ra (xs 4)) (zi_ra (xs 5)) (zi_ra (xs 6))) zi_o21_38 (zi_f0_at hS)
theorem zi_op23 (C : zi_Cx p room_1 s m #[Value.ref b] meth c s.heap.size D dA adK adV b zi_mlaw 40 []) (hX : va_X b 7 xs s s.heap) (hbl : b < s.heap.size) {ws : va_W} {H : Heap} {locs : List Loc} {ls : Array Slot} {sc : List Value} (hS : zi_St s.heap.size D dA adK adV b 7 s zi_f0 ws H locs ls sc) : zi_W p l e room_1 s m #[Value.ref b] below meth c (lw_Z below #[Value.ref b] s) 100 177797 1076 H locs ls sc := by
  have b1 := zi_bd (xs 1)
  have b2 := zi_bd (xs 2)
  have b3 := zi_bd (xs 3)
  rcases (show (xs 1).toInt ≤ (-1) ∨ 0 ≤ (xs 1).toInt by omega) with h0 | h0
  · skip
    exact zi_fin_ok (zi_scr C hX hbl (zi_ra (xs 0)) (zi_ri (a := (-2147483648)) (z := (-1)) (by decide) (by decide) (by omega) (by omega)) (zi_ra (xs 2)) (zi_ra (xs 3)) (zi_ra (xs 4)) (zi_ra (xs 5)) (zi_ra (xs 6))) zi_o23_39 (zi_f0_at hS)
  · skip
    exact zi_fin_ok (zi_scr C hX hbl (zi_ra (xs 0)) (zi_ri (a := 0) (z := 2147483647) (by decide) (by decide) (by omega) (by omega)) (zi_ra (xs 2)) (zi_ra (xs 3)) (zi_ra (xs 4)) (zi_ra (xs 5)) (zi_ra (xs 6))) zi_o23_40 (zi_f0_at hS)
theorem zi_op24 (C : zi_Cx p room_1 s m #[Value.ref b] meth c s.heap.size D dA adK adV b zi_mlaw 40 []) (hX : va_X b 7 xs s s.heap) (hbl : b < s.heap.size) {ws : va_W} {H : Heap} {locs : List Loc} {ls : Array Slot} {sc : List Value} (hS : zi_St s.heap.size D dA adK adV b 7 s zi_f0 ws H locs ls sc) : zi_W p l e room_1 s m #[Value.ref b] below meth c (lw_Z below #[Value.ref b] s) 100 177797 1113 H locs ls sc := by
  have b1 := zi_bd (xs 1)
  have b2 := zi_bd (xs 2)
  have b3 := zi_bd (xs 3)
  rcases (show (xs 1).toInt ≤ (-1) ∨ 0 ≤ (xs 1).toInt by omega) with h0 | h0
  · skip
    exact zi_fin_ok (zi_scr C hX hbl (zi_ra (xs 0)) (zi_ri (a := (-2147483648)) (z := (-1)) (by decide) (by decide) (by omega) (by omega)) (zi_ra (xs 2)) (zi_ra (xs 3)) (zi_ra (xs 4)) (zi_ra (xs 5)) (zi_ra (xs 6))) zi_o24_41 (zi_f0_at hS)
  · skip
    exact zi_fin_ok (zi_scr C hX hbl (zi_ra (xs 0)) (zi_ri (a := 0) (z := 2147483647) (by decide) (by decide) (by omega) (by omega)) (zi_ra (xs 2)) (zi_ra (xs 3)) (zi_ra (xs 4)) (zi_ra (xs 5)) (zi_ra (xs 6))) zi_o24_42 (zi_f0_at hS)
theorem zi_op25 (C : zi_Cx p room_1 s m #[Value.ref b] meth c s.heap.size D dA adK adV b zi_mlaw 40 []) (hX : va_X b 7 xs s s.heap) (hbl : b < s.heap.size) {ws : va_W} {H : Heap} {locs : List Loc} {ls : Array Slot} {sc : List Value} (hS : zi_St s.heap.size D dA adK adV b 7 s zi_f0 ws H locs ls sc) : zi_W p l e room_1 s m #[Value.ref b] below meth c (lw_Z below #[Value.ref b] s) 100 177797 1150 H locs ls sc := by
  have b1 := zi_bd (xs 1)
  have b2 := zi_bd (xs 2)
  have b3 := zi_bd (xs 3)
  rcases (show (xs 1).toInt ≤ (-1) ∨ (xs 1).toInt = 0 ∨ (xs 1).toInt = 1 ∨ 2 ≤ (xs 1).toInt by omega) with h0 | h0 | h0 | h0
  · skip
    exact zi_fin_ok (zi_scr C hX hbl (zi_ra (xs 0)) (zi_ri (a := (-2147483648)) (z := (-1)) (by decide) (by decide) (by omega) (by omega)) (zi_ra (xs 2)) (zi_ra (xs 3)) (zi_ra (xs 4)) (zi_ra (xs 5)) (zi_ra (xs 6))) zi_o25_43 (zi_f0_at hS)
  · skip
    exact zi_fin_ok (zi_scr C hX hbl (zi_ra (xs 0)) (zi_re (a := 0) (by decide) h0) (zi_ra (xs 2)) (zi_ra (xs 3)) (zi_ra (xs 4)) (zi_ra (xs 5)) (zi_ra (xs 6))) zi_o25_44 (zi_f0_at hS)
  · skip
    exact zi_fin_ok (zi_scr C hX hbl (zi_ra (xs 0)) (zi_re (a := 1) (by decide) h0) (zi_ra (xs 2)) (zi_ra (xs 3)) (zi_ra (xs 4)) (zi_ra (xs 5)) (zi_ra (xs 6))) zi_o25_45 (zi_f0_at hS)
  · skip
    exact zi_fin_ok (zi_scr C hX hbl (zi_ra (xs 0)) (zi_ri (a := 2) (z := 2147483647) (by decide) (by decide) (by omega) (by omega)) (zi_ra (xs 2)) (zi_ra (xs 3)) (zi_ra (xs 4)) (zi_ra (xs 5)) (zi_ra (xs 6))) zi_o25_46 (zi_f0_at hS)
theorem zi_op26 (C : zi_Cx p room_1 s m #[Value.ref b] meth c s.heap.size D dA adK adV b zi_mlaw 40 []) (hX : va_X b 7 xs s s.heap) (hbl : b < s.heap.size) {ws : va_W} {H : Heap} {locs : List Loc} {ls : Array Slot} {sc : List Value} (hS : zi_St s.heap.size D dA adK adV b 7 s zi_f0 ws H locs ls sc) : zi_W p l e room_1 s m #[Value.ref b] below meth c (lw_Z below #[Value.ref b] s) 100 177797 1175 H locs ls sc := by
  have b1 := zi_bd (xs 1)
  have b2 := zi_bd (xs 2)
  have b3 := zi_bd (xs 3)
  rcases (show (xs 1).toInt ≤ (-1) ∨ 0 ≤ (xs 1).toInt by omega) with h0 | h0
  · skip
    exact zi_fin_ok (zi_scr C hX hbl (zi_ra (xs 0)) (zi_ri (a := (-2147483648)) (z := (-1)) (by decide) (by decide) (by omega) (by omega)) (zi_ra (xs 2)) (zi_ra (xs 3)) (zi_ra (xs 4)) (zi_ra (xs 5)) (zi_ra (xs 6))) zi_o26_47 (zi_f0_at hS)
  · skip
    exact zi_fin_ok (zi_scr C hX hbl (zi_ra (xs 0)) (zi_ri (a := 0) (z := 2147483647) (by decide) (by decide) (by omega) (by omega)) (zi_ra (xs 2)) (zi_ra (xs 3)) (zi_ra (xs 4)) (zi_ra (xs 5)) (zi_ra (xs 6))) zi_o26_48 (zi_f0_at hS)
theorem zi_op27 (C : zi_Cx p room_1 s m #[Value.ref b] meth c s.heap.size D dA adK adV b zi_mlaw 40 []) (hX : va_X b 7 xs s s.heap) (hbl : b < s.heap.size) {ws : va_W} {H : Heap} {locs : List Loc} {ls : Array Slot} {sc : List Value} (hS : zi_St s.heap.size D dA adK adV b 7 s zi_f0 ws H locs ls sc) : zi_W p l e room_1 s m #[Value.ref b] below meth c (lw_Z below #[Value.ref b] s) 100 177797 1224 H locs ls sc := by
  have b1 := zi_bd (xs 1)
  have b2 := zi_bd (xs 2)
  have b3 := zi_bd (xs 3)
  exact zi_fin_ok (zi_scr C hX hbl (zi_ra (xs 0)) (zi_ra (xs 1)) (zi_ra (xs 2)) (zi_ra (xs 3)) (zi_ra (xs 4)) (zi_ra (xs 5)) (zi_ra (xs 6))) zi_o27_49 (zi_f0_at hS)
theorem zi_op28 (C : zi_Cx p room_1 s m #[Value.ref b] meth c s.heap.size D dA adK adV b zi_mlaw 40 []) (hX : va_X b 7 xs s s.heap) (hbl : b < s.heap.size) {ws : va_W} {H : Heap} {locs : List Loc} {ls : Array Slot} {sc : List Value} (hS : zi_St s.heap.size D dA adK adV b 7 s zi_f0 ws H locs ls sc) : zi_W p l e room_1 s m #[Value.ref b] below meth c (lw_Z below #[Value.ref b] s) 100 177797 1237 H locs ls sc := by
  have b1 := zi_bd (xs 1)
  have b2 := zi_bd (xs 2)
  have b3 := zi_bd (xs 3)
  exact zi_fin_ok (zi_scr C hX hbl (zi_ra (xs 0)) (zi_ra (xs 1)) (zi_ra (xs 2)) (zi_ra (xs 3)) (zi_ra (xs 4)) (zi_ra (xs 5)) (zi_ra (xs 6))) zi_o28_50 (zi_f0_at hS)
theorem zi_op29 (C : zi_Cx p room_1 s m #[Value.ref b] meth c s.heap.size D dA adK adV b zi_mlaw 40 []) (hX : va_X b 7 xs s s.heap) (hbl : b < s.heap.size) {ws : va_W} {H : Heap} {locs : List Loc} {ls : Array Slot} {sc : List Value} (hS : zi_St s.heap.size D dA adK adV b 7 s zi_f0 ws H locs ls sc) : zi_W p l e room_1 s m #[Value.ref b] below meth c (lw_Z below #[Value.ref b] s) 100 177797 1250 H locs ls sc := by
  have b1 := zi_bd (xs 1)
  have b2 := zi_bd (xs 2)
  have b3 := zi_bd (xs 3)
  rcases (show (xs 1).toInt ≤ (-1) ∨ (0 ≤ (xs 1).toInt ∧ (xs 1).toInt ≤ 9999) ∨ 10000 ≤ (xs 1).toInt by omega) with h0 | h0 | h0
  · skip
    rcases (show (xs 2).toInt ≤ (-1) ∨ 0 ≤ (xs 2).toInt by omega) with h1 | h1
    · skip
      exact zi_fin_ok (zi_scr C hX hbl (zi_ra (xs 0)) (zi_ri (a := (-2147483648)) (z := (-1)) (by decide) (by decide) (by omega) (by omega)) (zi_ri (a := (-2147483648)) (z := (-1)) (by decide) (by decide) (by omega) (by omega)) (zi_ra (xs 3)) (zi_ra (xs 4)) (zi_ra (xs 5)) (zi_ra (xs 6))) zi_o29_51 (zi_f0_at hS)
    · skip
      exact zi_fin_ok (zi_scr C hX hbl (zi_ra (xs 0)) (zi_ri (a := (-2147483648)) (z := (-1)) (by decide) (by decide) (by omega) (by omega)) (zi_ri (a := 0) (z := 2147483647) (by decide) (by decide) (by omega) (by omega)) (zi_ra (xs 3)) (zi_ra (xs 4)) (zi_ra (xs 5)) (zi_ra (xs 6))) zi_o29_52 (zi_f0_at hS)
  · skip
    rcases (show (xs 2).toInt ≤ (-1) ∨ 0 ≤ (xs 2).toInt by omega) with h1 | h1
    · skip
      exact zi_fin_ok (zi_scr C hX hbl (zi_ra (xs 0)) (zi_ri (a := 0) (z := 9999) (by decide) (by decide) (by omega) (by omega)) (zi_ri (a := (-2147483648)) (z := (-1)) (by decide) (by decide) (by omega) (by omega)) (zi_ra (xs 3)) (zi_ra (xs 4)) (zi_ra (xs 5)) (zi_ra (xs 6))) zi_o29_53 (zi_f0_at hS)
    · skip
      exact zi_fin_ok (zi_scr C hX hbl (zi_ra (xs 0)) (zi_ri (a := 0) (z := 9999) (by decide) (by decide) (by omega) (by omega)) (zi_ri (a := 0) (z := 2147483647) (by decide) (by decide) (by omega) (by omega)) (zi_ra (xs 3)) (zi_ra (xs 4)) (zi_ra (xs 5)) (zi_ra (xs 6))) zi_o29_54 (zi_f0_at hS)
  · skip
    rcases (show (xs 2).toInt ≤ (-1) ∨ 0 ≤ (xs 2).toInt by omega) with h1 | h1
    · skip
      exact zi_fin_ok (zi_scr C hX hbl (zi_ra (xs 0)) (zi_ri (a := 10000) (z := 2147483647) (by decide) (by decide) (by omega) (by omega)) (zi_ri (a := (-2147483648)) (z := (-1)) (by decide) (by decide) (by omega) (by omega)) (zi_ra (xs 3)) (zi_ra (xs 4)) (zi_ra (xs 5)) (zi_ra (xs 6))) zi_o29_55 (zi_f0_at hS)
    · skip
      exact zi_fin_ok (zi_scr C hX hbl (zi_ra (xs 0)) (zi_ri (a := 10000) (z := 2147483647) (by decide) (by decide) (by omega) (by omega)) (zi_ri (a := 0) (z := 2147483647) (by decide) (by decide) (by omega) (by omega)) (zi_ra (xs 3)) (zi_ra (xs 4)) (zi_ra (xs 5)) (zi_ra (xs 6))) zi_o29_56 (zi_f0_at hS)
theorem zi_op30 (C : zi_Cx p room_1 s m #[Value.ref b] meth c s.heap.size D dA adK adV b zi_mlaw 40 []) (hX : va_X b 7 xs s s.heap) (hbl : b < s.heap.size) {ws : va_W} {H : Heap} {locs : List Loc} {ls : Array Slot} {sc : List Value} (hS : zi_St s.heap.size D dA adK adV b 7 s zi_f0 ws H locs ls sc) : zi_W p l e room_1 s m #[Value.ref b] below meth c (lw_Z below #[Value.ref b] s) 100 177797 1299 H locs ls sc := by
  have b1 := zi_bd (xs 1)
  have b2 := zi_bd (xs 2)
  have b3 := zi_bd (xs 3)
  rcases (show (xs 1).toInt ≤ (-1) ∨ 10000 ≤ (xs 1).toInt ∨ (0 ≤ (xs 1).toInt ∧ (xs 1).toInt ≤ 9999) by omega) with h0 | h0 | h0
  · skip
    exact zi_fin_ok (zi_scr C hX hbl (zi_ra (xs 0)) (zi_ri (a := (-2147483648)) (z := (-1)) (by decide) (by decide) (by omega) (by omega)) (zi_ra (xs 2)) (zi_ra (xs 3)) (zi_ra (xs 4)) (zi_ra (xs 5)) (zi_ra (xs 6))) zi_o30_57 (zi_f0_at hS)
  · skip
    exact zi_fin_ok (zi_scr C hX hbl (zi_ra (xs 0)) (zi_ri (a := 10000) (z := 2147483647) (by decide) (by decide) (by omega) (by omega)) (zi_ra (xs 2)) (zi_ra (xs 3)) (zi_ra (xs 4)) (zi_ra (xs 5)) (zi_ra (xs 6))) zi_o30_58 (zi_f0_at hS)
  · skip
    rcases (show (xs 2).toInt ≤ 0 ∨ 61 ≤ (xs 2).toInt ∨ (1 ≤ (xs 2).toInt ∧ (xs 2).toInt ≤ 60) by omega) with h1 | h1 | h1
    · skip
      exact zi_fin_ok (zi_scr C hX hbl (zi_ra (xs 0)) (zi_ri (a := 0) (z := 9999) (by decide) (by decide) (by omega) (by omega)) (zi_ri (a := (-2147483648)) (z := 0) (by decide) (by decide) (by omega) (by omega)) (zi_ra (xs 3)) (zi_ra (xs 4)) (zi_ra (xs 5)) (zi_ra (xs 6))) zi_o30_59 (zi_f0_at hS)
    · skip
      exact zi_fin_ok (zi_scr C hX hbl (zi_ra (xs 0)) (zi_ri (a := 0) (z := 9999) (by decide) (by decide) (by omega) (by omega)) (zi_ri (a := 61) (z := 2147483647) (by decide) (by decide) (by omega) (by omega)) (zi_ra (xs 3)) (zi_ra (xs 4)) (zi_ra (xs 5)) (zi_ra (xs 6))) zi_o30_60 (zi_f0_at hS)
    · skip
      rcases (show (xs 3).toInt ≤ (-1) ∨ (0 ≤ (xs 3).toInt ∧ (xs 3).toInt ≤ 2) ∨ 3 ≤ (xs 3).toInt by omega) with h2 | h2 | h2
      · skip
        exact zi_fin_ok (zi_scr C hX hbl (zi_ra (xs 0)) (zi_ri (a := 0) (z := 9999) (by decide) (by decide) (by omega) (by omega)) (zi_ri (a := 1) (z := 60) (by decide) (by decide) (by omega) (by omega)) (zi_ri (a := (-2147483648)) (z := (-1)) (by decide) (by decide) (by omega) (by omega)) (zi_ra (xs 4)) (zi_ra (xs 5)) (zi_ra (xs 6))) zi_o30_61 (zi_f0_at hS)
      · skip
        exact zi_fin_ok (zi_scr C hX hbl (zi_ra (xs 0)) (zi_ri (a := 0) (z := 9999) (by decide) (by decide) (by omega) (by omega)) (zi_ri (a := 1) (z := 60) (by decide) (by decide) (by omega) (by omega)) (zi_ri (a := 0) (z := 2) (by decide) (by decide) (by omega) (by omega)) (zi_ra (xs 4)) (zi_ra (xs 5)) (zi_ra (xs 6))) zi_o30_62 (zi_f0_at hS)
      · skip
        exact zi_fin_ok (zi_scr C hX hbl (zi_ra (xs 0)) (zi_ri (a := 0) (z := 9999) (by decide) (by decide) (by omega) (by omega)) (zi_ri (a := 1) (z := 60) (by decide) (by decide) (by omega) (by omega)) (zi_ri (a := 3) (z := 2147483647) (by decide) (by decide) (by omega) (by omega)) (zi_ra (xs 4)) (zi_ra (xs 5)) (zi_ra (xs 6))) zi_o30_63 (zi_f0_at hS)
theorem zi_op31 (C : zi_Cx p room_1 s m #[Value.ref b] meth c s.heap.size D dA adK adV b zi_mlaw 40 []) (hX : va_X b 7 xs s s.heap) (hbl : b < s.heap.size) {ws : va_W} {H : Heap} {locs : List Loc} {ls : Array Slot} {sc : List Value} (hS : zi_St s.heap.size D dA adK adV b 7 s zi_f0 ws H locs ls sc) : zi_W p l e room_1 s m #[Value.ref b] below meth c (lw_Z below #[Value.ref b] s) 100 177797 1348 H locs ls sc := by
  have b1 := zi_bd (xs 1)
  have b2 := zi_bd (xs 2)
  have b3 := zi_bd (xs 3)
  rcases (show (xs 1).toInt ≤ (-1) ∨ (xs 1).toInt = 0 ∨ (xs 1).toInt = 1 ∨ (xs 1).toInt = 2 ∨ (xs 1).toInt = 3 ∨ 4 ≤ (xs 1).toInt by omega) with h0 | h0 | h0 | h0 | h0 | h0
  · skip
    rcases (show (xs 2).toInt ≤ (-1) ∨ (xs 2).toInt = 0 ∨ 1 ≤ (xs 2).toInt by omega) with h1 | h1 | h1
    · skip
      exact zi_fin_ok (zi_scr C hX hbl (zi_ra (xs 0)) (zi_ri (a := (-2147483648)) (z := (-1)) (by decide) (by decide) (by omega) (by omega)) (zi_ri (a := (-2147483648)) (z := (-1)) (by decide) (by decide) (by omega) (by omega)) (zi_ra (xs 3)) (zi_ra (xs 4)) (zi_ra (xs 5)) (zi_ra (xs 6))) zi_o31_64 (zi_f0_at hS)
    · skip
      exact zi_fin_ok (zi_scr C hX hbl (zi_ra (xs 0)) (zi_ri (a := (-2147483648)) (z := (-1)) (by decide) (by decide) (by omega) (by omega)) (zi_re (a := 0) (by decide) h1) (zi_ra (xs 3)) (zi_ra (xs 4)) (zi_ra (xs 5)) (zi_ra (xs 6))) zi_o31_65 (zi_f0_at hS)
    · skip
      exact zi_fin_ok (zi_scr C hX hbl (zi_ra (xs 0)) (zi_ri (a := (-2147483648)) (z := (-1)) (by decide) (by decide) (by omega) (by omega)) (zi_ri (a := 1) (z := 2147483647) (by decide) (by decide) (by omega) (by omega)) (zi_ra (xs 3)) (zi_ra (xs 4)) (zi_ra (xs 5)) (zi_ra (xs 6))) zi_o31_66 (zi_f0_at hS)
  · skip
    rcases (show (xs 2).toInt ≤ (-1) ∨ (xs 2).toInt = 0 ∨ 1 ≤ (xs 2).toInt by omega) with h1 | h1 | h1
    · skip
      exact zi_fin_ok (zi_scr C hX hbl (zi_ra (xs 0)) (zi_re (a := 0) (by decide) h0) (zi_ri (a := (-2147483648)) (z := (-1)) (by decide) (by decide) (by omega) (by omega)) (zi_ra (xs 3)) (zi_ra (xs 4)) (zi_ra (xs 5)) (zi_ra (xs 6))) zi_o31_67 (zi_f0_at hS)
    · skip
      exact zi_fin_ok (zi_scr C hX hbl (zi_ra (xs 0)) (zi_re (a := 0) (by decide) h0) (zi_re (a := 0) (by decide) h1) (zi_ra (xs 3)) (zi_ra (xs 4)) (zi_ra (xs 5)) (zi_ra (xs 6))) zi_o31_68 (zi_f0_at hS)
    · skip
      exact zi_fin_ok (zi_scr C hX hbl (zi_ra (xs 0)) (zi_re (a := 0) (by decide) h0) (zi_ri (a := 1) (z := 2147483647) (by decide) (by decide) (by omega) (by omega)) (zi_ra (xs 3)) (zi_ra (xs 4)) (zi_ra (xs 5)) (zi_ra (xs 6))) zi_o31_69 (zi_f0_at hS)
  · skip
    rcases (show (xs 2).toInt ≤ (-1) ∨ (xs 2).toInt = 0 ∨ 1 ≤ (xs 2).toInt by omega) with h1 | h1 | h1
    · skip
      exact zi_fin_ok (zi_scr C hX hbl (zi_ra (xs 0)) (zi_re (a := 1) (by decide) h0) (zi_ri (a := (-2147483648)) (z := (-1)) (by decide) (by decide) (by omega) (by omega)) (zi_ra (xs 3)) (zi_ra (xs 4)) (zi_ra (xs 5)) (zi_ra (xs 6))) zi_o31_70 (zi_f0_at hS)
    · skip
      exact zi_fin_ok (zi_scr C hX hbl (zi_ra (xs 0)) (zi_re (a := 1) (by decide) h0) (zi_re (a := 0) (by decide) h1) (zi_ra (xs 3)) (zi_ra (xs 4)) (zi_ra (xs 5)) (zi_ra (xs 6))) zi_o31_71 (zi_f0_at hS)
    · skip
      exact zi_fin_ok (zi_scr C hX hbl (zi_ra (xs 0)) (zi_re (a := 1) (by decide) h0) (zi_ri (a := 1) (z := 2147483647) (by decide) (by decide) (by omega) (by omega)) (zi_ra (xs 3)) (zi_ra (xs 4)) (zi_ra (xs 5)) (zi_ra (xs 6))) zi_o31_72 (zi_f0_at hS)
  · skip
    rcases (show (xs 2).toInt ≤ (-1) ∨ (xs 2).toInt = 0 ∨ 1 ≤ (xs 2).toInt by omega) with h1 | h1 | h1
    · skip
      exact zi_fin_ok (zi_scr C hX hbl (zi_ra (xs 0)) (zi_re (a := 2) (by decide) h0) (zi_ri (a := (-2147483648)) (z := (-1)) (by decide) (by decide) (by omega) (by omega)) (zi_ra (xs 3)) (zi_ra (xs 4)) (zi_ra (xs 5)) (zi_ra (xs 6))) zi_o31_73 (zi_f0_at hS)
    · skip
      exact zi_fin_ok (zi_scr C hX hbl (zi_ra (xs 0)) (zi_re (a := 2) (by decide) h0) (zi_re (a := 0) (by decide) h1) (zi_ra (xs 3)) (zi_ra (xs 4)) (zi_ra (xs 5)) (zi_ra (xs 6))) zi_o31_74 (zi_f0_at hS)
    · skip
      exact zi_fin_ok (zi_scr C hX hbl (zi_ra (xs 0)) (zi_re (a := 2) (by decide) h0) (zi_ri (a := 1) (z := 2147483647) (by decide) (by decide) (by omega) (by omega)) (zi_ra (xs 3)) (zi_ra (xs 4)) (zi_ra (xs 5)) (zi_ra (xs 6))) zi_o31_75 (zi_f0_at hS)
  · skip
    rcases (show (xs 2).toInt ≤ (-1) ∨ (xs 2).toInt = 0 ∨ 1 ≤ (xs 2).toInt by omega) with h1 | h1 | h1
    · skip
      exact zi_fin_ok (zi_scr C hX hbl (zi_ra (xs 0)) (zi_re (a := 3) (by decide) h0) (zi_ri (a := (-2147483648)) (z := (-1)) (by decide) (by decide) (by omega) (by omega)) (zi_ra (xs 3)) (zi_ra (xs 4)) (zi_ra (xs 5)) (zi_ra (xs 6))) zi_o31_76 (zi_f0_at hS)
    · skip
      exact zi_fin_ok (zi_scr C hX hbl (zi_ra (xs 0)) (zi_re (a := 3) (by decide) h0) (zi_re (a := 0) (by decide) h1) (zi_ra (xs 3)) (zi_ra (xs 4)) (zi_ra (xs 5)) (zi_ra (xs 6))) zi_o31_77 (zi_f0_at hS)
    · skip
      exact zi_fin_ok (zi_scr C hX hbl (zi_ra (xs 0)) (zi_re (a := 3) (by decide) h0) (zi_ri (a := 1) (z := 2147483647) (by decide) (by decide) (by omega) (by omega)) (zi_ra (xs 3)) (zi_ra (xs 4)) (zi_ra (xs 5)) (zi_ra (xs 6))) zi_o31_78 (zi_f0_at hS)
  · skip
    rcases (show (xs 2).toInt ≤ (-1) ∨ (xs 2).toInt = 0 ∨ 1 ≤ (xs 2).toInt by omega) with h1 | h1 | h1
    · skip
      exact zi_fin_ok (zi_scr C hX hbl (zi_ra (xs 0)) (zi_ri (a := 4) (z := 2147483647) (by decide) (by decide) (by omega) (by omega)) (zi_ri (a := (-2147483648)) (z := (-1)) (by decide) (by decide) (by omega) (by omega)) (zi_ra (xs 3)) (zi_ra (xs 4)) (zi_ra (xs 5)) (zi_ra (xs 6))) zi_o31_79 (zi_f0_at hS)
    · skip
      exact zi_fin_ok (zi_scr C hX hbl (zi_ra (xs 0)) (zi_ri (a := 4) (z := 2147483647) (by decide) (by decide) (by omega) (by omega)) (zi_re (a := 0) (by decide) h1) (zi_ra (xs 3)) (zi_ra (xs 4)) (zi_ra (xs 5)) (zi_ra (xs 6))) zi_o31_80 (zi_f0_at hS)
    · skip
      exact zi_fin_ok (zi_scr C hX hbl (zi_ra (xs 0)) (zi_ri (a := 4) (z := 2147483647) (by decide) (by decide) (by omega) (by omega)) (zi_ri (a := 1) (z := 2147483647) (by decide) (by decide) (by omega) (by omega)) (zi_ra (xs 3)) (zi_ra (xs 4)) (zi_ra (xs 5)) (zi_ra (xs 6))) zi_o31_81 (zi_f0_at hS)
theorem zi_op32 (C : zi_Cx p room_1 s m #[Value.ref b] meth c s.heap.size D dA adK adV b zi_mlaw 40 []) (hX : va_X b 7 xs s s.heap) (hbl : b < s.heap.size) {ws : va_W} {H : Heap} {locs : List Loc} {ls : Array Slot} {sc : List Value} (hS : zi_St s.heap.size D dA adK adV b 7 s zi_f0 ws H locs ls sc) : zi_W p l e room_1 s m #[Value.ref b] below meth c (lw_Z below #[Value.ref b] s) 100 177797 1401 H locs ls sc := by
  have b1 := zi_bd (xs 1)
  have b2 := zi_bd (xs 2)
  have b3 := zi_bd (xs 3)
  rcases (show (xs 1).toInt ≤ (-1) ∨ (xs 1).toInt = 0 ∨ (xs 1).toInt = 1 ∨ (xs 1).toInt = 2 ∨ (xs 1).toInt = 3 ∨ (xs 1).toInt = 4 ∨ (xs 1).toInt = 5 ∨ (xs 1).toInt = 6 ∨ (xs 1).toInt = 7 ∨ (xs 1).toInt = 8 ∨ (xs 1).toInt = 9 ∨ (xs 1).toInt = 10 ∨ (xs 1).toInt = 11 ∨ 12 ≤ (xs 1).toInt by omega) with h0 | h0 | h0 | h0 | h0 | h0 | h0 | h0 | h0 | h0 | h0 | h0 | h0 | h0
  · skip
    exact zi_fin_ok (zi_scr C hX hbl (zi_ra (xs 0)) (zi_ri (a := (-2147483648)) (z := (-1)) (by decide) (by decide) (by omega) (by omega)) (zi_ra (xs 2)) (zi_ra (xs 3)) (zi_ra (xs 4)) (zi_ra (xs 5)) (zi_ra (xs 6))) zi_o32_82 (zi_f0_at hS)
  · skip
    exact zi_fin_ok (zi_scr C hX hbl (zi_ra (xs 0)) (zi_re (a := 0) (by decide) h0) (zi_ra (xs 2)) (zi_ra (xs 3)) (zi_ra (xs 4)) (zi_ra (xs 5)) (zi_ra (xs 6))) zi_o32_83 (zi_f0_at hS)
  · skip
    exact zi_fin_ok (zi_scr C hX hbl (zi_ra (xs 0)) (zi_re (a := 1) (by decide) h0) (zi_ra (xs 2)) (zi_ra (xs 3)) (zi_ra (xs 4)) (zi_ra (xs 5)) (zi_ra (xs 6))) zi_o32_84 (zi_f0_at hS)
  · skip
    exact zi_fin_ok (zi_scr C hX hbl (zi_ra (xs 0)) (zi_re (a := 2) (by decide) h0) (zi_ra (xs 2)) (zi_ra (xs 3)) (zi_ra (xs 4)) (zi_ra (xs 5)) (zi_ra (xs 6))) zi_o32_85 (zi_f0_at hS)
  · skip
    exact zi_fin_ok (zi_scr C hX hbl (zi_ra (xs 0)) (zi_re (a := 3) (by decide) h0) (zi_ra (xs 2)) (zi_ra (xs 3)) (zi_ra (xs 4)) (zi_ra (xs 5)) (zi_ra (xs 6))) zi_o32_86 (zi_f0_at hS)
  · skip
    exact zi_fin_ok (zi_scr C hX hbl (zi_ra (xs 0)) (zi_re (a := 4) (by decide) h0) (zi_ra (xs 2)) (zi_ra (xs 3)) (zi_ra (xs 4)) (zi_ra (xs 5)) (zi_ra (xs 6))) zi_o32_87 (zi_f0_at hS)
  · skip
    exact zi_fin_ok (zi_scr C hX hbl (zi_ra (xs 0)) (zi_re (a := 5) (by decide) h0) (zi_ra (xs 2)) (zi_ra (xs 3)) (zi_ra (xs 4)) (zi_ra (xs 5)) (zi_ra (xs 6))) zi_o32_88 (zi_f0_at hS)
  · skip
    exact zi_fin_ok (zi_scr C hX hbl (zi_ra (xs 0)) (zi_re (a := 6) (by decide) h0) (zi_ra (xs 2)) (zi_ra (xs 3)) (zi_ra (xs 4)) (zi_ra (xs 5)) (zi_ra (xs 6))) zi_o32_89 (zi_f0_at hS)
  · skip
    exact zi_fin_ok (zi_scr C hX hbl (zi_ra (xs 0)) (zi_re (a := 7) (by decide) h0) (zi_ra (xs 2)) (zi_ra (xs 3)) (zi_ra (xs 4)) (zi_ra (xs 5)) (zi_ra (xs 6))) zi_o32_90 (zi_f0_at hS)
  · skip
    exact zi_fin_ok (zi_scr C hX hbl (zi_ra (xs 0)) (zi_re (a := 8) (by decide) h0) (zi_ra (xs 2)) (zi_ra (xs 3)) (zi_ra (xs 4)) (zi_ra (xs 5)) (zi_ra (xs 6))) zi_o32_91 (zi_f0_at hS)
  · skip
    exact zi_fin_ok (zi_scr C hX hbl (zi_ra (xs 0)) (zi_re (a := 9) (by decide) h0) (zi_ra (xs 2)) (zi_ra (xs 3)) (zi_ra (xs 4)) (zi_ra (xs 5)) (zi_ra (xs 6))) zi_o32_92 (zi_f0_at hS)
  · skip
    exact zi_fin_ok (zi_scr C hX hbl (zi_ra (xs 0)) (zi_re (a := 10) (by decide) h0) (zi_ra (xs 2)) (zi_ra (xs 3)) (zi_ra (xs 4)) (zi_ra (xs 5)) (zi_ra (xs 6))) zi_o32_93 (zi_f0_at hS)
  · skip
    exact zi_fin_ok (zi_scr C hX hbl (zi_ra (xs 0)) (zi_re (a := 11) (by decide) h0) (zi_ra (xs 2)) (zi_ra (xs 3)) (zi_ra (xs 4)) (zi_ra (xs 5)) (zi_ra (xs 6))) zi_o32_94 (zi_f0_at hS)
  · skip
    exact zi_fin_ok (zi_scr C hX hbl (zi_ra (xs 0)) (zi_ri (a := 12) (z := 2147483647) (by decide) (by decide) (by omega) (by omega)) (zi_ra (xs 2)) (zi_ra (xs 3)) (zi_ra (xs 4)) (zi_ra (xs 5)) (zi_ra (xs 6))) zi_o32_95 (zi_f0_at hS)
theorem zi_op99 (C : zi_Cx p room_1 s m #[Value.ref b] meth c s.heap.size D dA adK adV b zi_mlaw 40 []) (hX : va_X b 7 xs s s.heap) (hbl : b < s.heap.size) {ws : va_W} {H : Heap} {locs : List Loc} {ls : Array Slot} {sc : List Value} (hS : zi_St s.heap.size D dA adK adV b 7 s zi_f0 ws H locs ls sc) : zi_W p l e room_1 s m #[Value.ref b] below meth c (lw_Z below #[Value.ref b] s) 100 177797 1426 H locs ls sc := by
  have b1 := zi_bd (xs 1)
  have b2 := zi_bd (xs 2)
  have b3 := zi_bd (xs 3)
  exact zi_fin_ok (zi_scr C hX hbl (zi_ra (xs 0)) (zi_ra (xs 1)) (zi_ra (xs 2)) (zi_ra (xs 3)) (zi_ra (xs 4)) (zi_ra (xs 5)) (zi_ra (xs 6))) zi_o99_96 (zi_f0_at hS)
end ZF
