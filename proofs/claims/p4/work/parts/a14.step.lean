/-! The check of an entry, and the step. -/
def zi_ln (i : Instr) : Nat := match i with
  | .bipush _ => 2
  | .ldc _ => 2
  | .iload _ => 2
  | .lload _ => 2
  | .aload _ => 2
  | .istore _ => 2
  | .lstore _ => 2
  | .astore _ => 2
  | .newarray _ => 2
  | .sipush _ => 3
  | .ldc_w _ => 3
  | .ldc2_w _ => 3
  | .iinc _ _ => 3
  | .ifCond _ _ => 3
  | .if_icmp _ _ => 3
  | .goto _ => 3
  | .ifnull _ => 3
  | .ifnonnull _ => 3
  | .getfield _ => 3
  | .putfield _ => 3
  | .getstatic _ => 3
  | .new _ => 3
  | .anewarray _ => 3
  | .invokestatic _ => 3
  | .invokespecial _ => 3
  | .invokevirtual _ => 3
  | _ => 1
def zi_tg (pc : Nat) (off : Int) (o : List Nat) : Bool := match o with
  | t :: _ => decide ((pc : Int) + off = (t : Int))
  | [] => false
def zi_mem (w : Cond) : Bool := decide (w ∈ lw_tbl) && goodWord w
theorem zi_mem_ok {w : Cond} (h : zi_mem w = true) : w ∈ zi_gd := by
  unfold zi_mem at h
  rw [Bool.and_eq_true, decide_eq_true_eq] at h
  exact List.mem_filter.mpr h
def zi_kl (M : zi_M) (pc : Nat) (Ms : List zi_M) (i : Instr) (o : List Nat) : Bool := match i with
  | .ldc i => (match o with
      | 0 :: v :: q :: _ => zi_at q (.constant M.1.cls i (Int32.ofNat v))
      | 1 :: r :: _ => Nat.ble (r + 1) 4 && (match zi_sr[r]? with | some z => decide (z.1 = M.1.cls) && decide (z.2.1 = i) | none => false)
      | _ => false)
  | .ldc_w i => (match o with
      | 0 :: v :: q :: _ => zi_at q (.constant M.1.cls i (Int32.ofNat v))
      | _ => false)
  | .ldc2_w i => (match o with
      | v :: q :: _ => zi_at q (.constantLong M.1.cls i (Int64.ofNat v))
      | _ => false)
  | .ifCond _ off => zi_tg pc off o
  | .if_icmp _ off => zi_tg pc off o
  | .goto off => zi_tg pc off o
  | .ifnull off => zi_tg pc off o
  | .ifnonnull off => zi_tg pc off o
  | .tableswitch d _ _ offs => zi_tg pc d o && decide (offs.toList.map (fun x => (pc : Int) + x) = o.tail.map (fun (t : Nat) => (t : Int)))
  | .lookupswitch _ ps => (ps.toList.zip (ps.toList.drop 1)).all (fun (a, next) => a.1 < next.1)
  | .getfield i => (match o with
      | ci :: k :: q :: _ => bif Nat.beq ci 100 then (bif Nat.beq k 0 then zi_at q (.fieldLink M.1.cls i "java/lang/String" "value" "[B") else Nat.beq k 1 && zi_at q (.fieldLink M.1.cls i "java/lang/String" "coder" "B"))
          else (match zi_Fs[ci]? with | some z => Nat.ble (k + 1) z.2.length && zi_at q (.fieldLink M.1.cls i (zi_Tf z k).1 (zi_Tf z k).2.1 (zi_Tf z k).2.2.1) | none => false)
      | _ => false)
  | .putfield i => (match o with
      | ci :: k :: q :: _ => (match zi_Fs[ci]? with | some z => Nat.ble (k + 1) z.2.length && zi_at q (.fieldLink M.1.cls i (zi_Tf z k).1 (zi_Tf z k).2.1 (zi_Tf z k).2.2.1) && (!(zi_Tf z k).2.2.2 || (decide (M.1.name = "<init>") && decide ((zi_Tf z k).1 = M.1.cls))) | none => false)
      | _ => false)
  | .getstatic i => (match o with
      | k :: q :: _ => bif Nat.beq k 0 then zi_at q (.fieldLink M.1.cls i "java/lang/String" "COMPACT_STRINGS" "Z") else zi_at q (.fieldLink M.1.cls i "jdk/internal/util/Preconditions" "SIOOBE_FORMATTER" "Ljava/util/function/BiFunction;")
      | _ => false)
  | .new i => (match o with
      | ci :: q1 :: q2 :: q3 :: _ => (match zi_Fs[ci]? with | some z => zi_at q1 (.classLink M.1.cls i z.1) && zi_at q2 (.instantiable z.1 z.2.length) && zi_at q3 (.initialized z.1) | none => false)
      | _ => false)
  | .newarray a => (match o with
      | t :: q :: _ => decide (newarray.typeOf a = zi_ft t) && Nat.ble (t + 1) 4 && zi_at q (.arrayClass (newarray.typeOf a))
      | _ => false)
  | .anewarray i => (match o with
      | t :: q :: _ => Nat.ble 4 t && Nat.ble t 6 && (match zi_ft t with | .object C => zi_at q (.classLink M.1.cls i C) | _ => false)
      | _ => false)
  | .invokestatic i => (match o with
      | [z] => bif Nat.beq z 0 then zi_mem (.methodLink M.1.cls i Lib.Math.max.name) else zi_mem (.methodLink M.1.cls i Lib.Math.min.name)
      | mi :: k :: z :: q1 :: q2 :: _ => (match Ms[mi]? with | some N => (bif Nat.beq z 0 then zi_at q1 (.methodLink M.1.cls i N.1) else decide ((M.1.cls, i, N.1, "AgreeTold") ∈ zi_nest)) && zi_at q2 (.static N.1) && decide ((parseMethodDescriptor N.1.desc).map (fun d => d.parameters.length) = some k) | none => false)
      | _ => false)
  | .invokespecial i => (match o with
      | [] => zi_mem (.methodLink M.1.cls i objectInit)
      | mi :: k :: z :: q1 :: q2 :: _ => (match Ms[mi]? with | some N => (bif Nat.beq z 0 then zi_at q1 (.methodLink M.1.cls i N.1) else decide ((M.1.cls, i, N.1, "AgreeTold") ∈ zi_nest)) && zi_at q2 (.instanceMethod N.1) && decide (N.1.name = "<init>") && decide (N.2.2.2.1 = none) && decide ((parseMethodDescriptor N.1.desc).map (fun d => d.parameters.length + 1) = some k) | none => false)
      | _ => false)
  | .invokevirtual i => (match o with
      | mi :: k :: ci :: q1 :: q2 :: q3 :: _ => (match Ms[mi]? with | some N => zi_at q1 (.methodLink M.1.cls i N.1) && zi_at q2 (.instanceMethod N.1) && zi_at q3 (.selects N.1.cls N.1 N.1) && (bif Nat.beq ci 100 then decide (N.1.cls = "java/lang/String") else (match zi_Fs[ci]? with | some z => decide (z.1 = N.1.cls) | none => false)) && decide ((parseMethodDescriptor N.1.desc).map (fun d => d.parameters.length + 1) = some k) | none => false)
      | _ => false)
  | _ => true
def zi_sw (i : Instr) : Bool := match i with
  | .tableswitch _ _ _ _ => true
  | .lookupswitch _ _ => true
  | _ => false
def zi_ok (Ms : List zi_M) (M : zi_M) (pc : Nat) (e : zi_E) : Bool := decide (decode M.2.1 pc = .ok (e.1, e.2.1)) && (zi_sw e.1 || Nat.beq e.2.1 (zi_ln e.1)) && zi_kl M pc Ms e.1 e.2.2
theorem zi_tg_ok {pc : Nat} {off : Int} {t : Nat} {ts : List Nat} (h : zi_tg pc off (t :: ts) = true) : (pc : Int) + off = (t : Int) := of_decide_eq_true h
/-- the words of Object's constructor -/
theorem zi_objw : Cond.instanceMethod objectInit ∈ zi_gd ∧ Cond.code objectInit ⟨#[0xb1]⟩ 1 none ∈ zi_gd := ⟨zi_mem_ok (by decide +kernel), zi_mem_ok (by decide +kernel)⟩
theorem zi_ret_no {k : Nat} {g : zi_F} : ∀ (r : Option FieldType) (st : List zi_V), ¬ zi_ret k r st = some (.inl g)
  | none, _, h => by cases h
  | some _, [], h => by cases h
  | some _, _ :: _ :: _, h => by cases h
  | some ty, [v], h => by
    have h : (bif zi_rok ty v && zi_rk k v then some (.inr (some v)) else none) = (some (.inl g) : zi_O) := h
    cases hz : (zi_rok ty v && zi_rk k v) with
    | true => rw [hz] at h; cases h
    | false => rw [hz] at h; cases h
theorem zi_rtv_no {g : zi_F} : ∀ (r : Option FieldType) (st : List zi_V), ¬ zi_rtv r st = some (.inl g)
  | none, [], h => by cases h
  | none, _ :: _, h => by cases h
  | some _, _, h => by cases h
/-- the words of Math's two -/
theorem zi_mxw : Cond.static Lib.Math.max.name ∈ zi_gd ∧ Cond.initialized "java/lang/Math" ∈ zi_gd ∧ Cond.code Lib.Math.max.name Lib.Math.max.code 2 (some .int) ∈ zi_gd ∧ Cond.static Lib.Math.min.name ∈ zi_gd ∧ Cond.code Lib.Math.min.name Lib.Math.min.code 2 (some .int) ∈ zi_gd := ⟨zi_mem_ok (by decide +kernel), zi_mem_ok (by decide +kernel), zi_mem_ok (by decide +kernel), zi_mem_ok (by decide +kernel), zi_mem_ok (by decide +kernel)⟩
section ZT
variable {p : Program} {l : Launch} {e : Env} {R : Room} {s : State} {m : MethodId} {args : Array Value} {below : List Frame} {meth : Method} {c : Code} {B0 : Nat} {D : va_G} {dA : Nat → ClassId} {adK adV : Nat → Nat} {b : Nat} {M : zi_M} {d : Nat} {sl : List zi_V}
variable {pc : Nat} {al : List (Nat × zi_V)} {st : List zi_V} {A : List zi_C} {nc ns : Nat} {g : zi_F} {Ms : List zi_M} {call : zi_K}
theorem zi_go_mm (C : zi_Cx p R s m args meth c B0 D dA adK adV b M d sl) {i z : Nat} (hd : decode M.2.1 pc = .ok (.invokestatic i, 3)) (h0 : z = 0 → Cond.methodLink M.1.cls i Lib.Math.max.name ∈ zi_gd) (h1 : z ≠ 0 → Cond.methodLink M.1.cls i Lib.Math.min.name ∈ zi_gd) (hcat : zi_cats st ≤ 10) (h : zi_mm z pc 3 al st A nc ns = some (.inl g)) : zi_Go p l e R s m args below meth c B0 D dA adK adV b M.2.2.1 (pc, al, st, A, nc, ns) g := by
  obtain ⟨⟨hx, hb, hml, hret, hown, hts, hlk, hnm⟩, hX, hR, hscr⟩ := C
  unfold zi_mm at h
  split at h
  · rename_i y x r
    cases h
    intro Q ws H locs ls sc hS hc1 hc2 kk
    obtain ⟨g1, g2, g3, g4, ⟨lv, g5, g7⟩, g6⟩ := hS
    have hsum := zi_cats_ok g6
    obtain ⟨w1, s1, e1, v1, k1⟩ := zi_F2_cons g6
    obtain ⟨w2, s2, e2, v2, k2⟩ := zi_F2_cons k1
    have v1 : w1 = .int y := v1
    have v2 : w2 = .int x := v2
    subst e1 e2 v1 v2
    have hl : (s2.map fun v => v.category).sum + 13 ≤ R.locals := by
      have hs2 := zi_cats_ok k2
      have e3 : zi_cats (.inl (.int y) :: .inl (.int x) :: r) = 1 + (1 + zi_cats r) := rfl
      rw [e3] at hcat
      rw [hs2]
      omega
    cases z with
    | zero => exact va_mmax hx hb (hml.trans g5.1.symm) hown (hts _ (h0 rfl)) (hts _ zi_mxw.1) (hts _ zi_mxw.2.1) (hts _ zi_mxw.2.2.1) (by omega) hl hc1 hc2 hd (kk ws H locs ls _ (zi_ex_refl ws) ⟨g1, g2, g3, g4, ⟨lv, g5, g7⟩, ⟨rfl, k2⟩⟩)
    | succ z => exact va_mmin hx hb (hml.trans g5.1.symm) hown (hts _ (h1 (Nat.succ_ne_zero z))) (hts _ zi_mxw.2.2.2.1) (hts _ zi_mxw.2.1) (hts _ zi_mxw.2.2.2.2) (by omega) hl hc1 hc2 hd (kk ws H locs ls _ (zi_ex_refl ws) ⟨g1, g2, g3, g4, ⟨lv, g5, g7⟩, ⟨rfl, k2⟩⟩)
  · cases h
set_option maxHeartbeats 4000000 in
theorem zi_step (C : zi_Cx p R s m args meth c B0 D dA adK adV b M d sl) (hct : zi_Ct l Ms d call) (hMs : ∀ (mi : Nat) (N : zi_M), Ms[mi]? = some N → zi_okM N) {i : Instr} {n : Nat} {o : List Nat} (hok : zi_ok Ms M pc (i, n, o) = true) (h : zi_do call sl M.2.2.1 M.2.2.2.1 pc al st A nc ns i n o = some (.inl g)) : zi_Go p l e R s m args below meth c B0 D dA adK adV b M.2.2.1 (pc, al, st, A, nc, ns) g := by
  have C0 := C
  obtain ⟨⟨hx, hb, hml, hret, hown, hts, hlk, hnm⟩, hX, hR, hscr⟩ := C
  unfold zi_ok at hok
  rw [Bool.and_eq_true, Bool.and_eq_true] at hok
  obtain ⟨⟨hd0, hn0⟩, hkl0⟩ := hok
  have hd : decode M.2.1 pc = .ok (i, n) := of_decide_eq_true hd0
  rw [Bool.or_eq_true] at hn0
  have hn : zi_sw i = true ∨ n = zi_ln i := hn0.imp id (fun z => Nat.eq_of_beq_eq_true z)
  have hkl : zi_kl M pc Ms i o = true := hkl0
  clear hd0 hn0 hkl0
  cases i with
  | iconst k =>
    have hn : n = 1 := hn.elim (fun z => Bool.noConfusion (show false = true from z)) id
    subst hn
    exact zi_go_ps (v := .inl (.int (Int32.ofInt k))) (w := .int (Int32.ofInt k)) (fun _ => rfl) (fun Q H locs ls sc kk => lv_iconst hx hb hd rfl kk) h
  | bipush k =>
    have hn : n = 2 := hn.elim (fun z => Bool.noConfusion (show false = true from z)) id
    subst hn
    exact zi_go_ps (v := .inl (.int (Int8.ofInt k).toInt32)) (w := .int (Int8.ofInt k).toInt32) (fun _ => rfl) (fun Q H locs ls sc kk => lv_bipush hx hb hd rfl kk) h
  | sipush k =>
    have hn : n = 3 := hn.elim (fun z => Bool.noConfusion (show false = true from z)) id
    subst hn
    exact zi_go_ps (v := .inl (.int (Int16.ofInt k).toInt32)) (w := .int (Int16.ofInt k).toInt32) (fun _ => rfl) (fun Q H locs ls sc kk => lv_sipush hx hb hd rfl kk) h
  | lconst k =>
    have hn : n = 1 := hn.elim (fun z => Bool.noConfusion (show false = true from z)) id
    subst hn
    exact zi_go_ps (v := .inl (.long (Int64.ofNat k.val))) (w := .long (Int64.ofNat k.val)) (fun _ => rfl) (fun Q H locs ls sc kk => lv_lconst hx hb hd rfl kk) h
  | aconst_null =>
    have hn : n = 1 := hn.elim (fun z => Bool.noConfusion (show false = true from z)) id
    subst hn
    exact zi_go_ps (v := .inl (.null)) (w := .null) (fun _ => rfl) (fun Q H locs ls sc kk => lv_null hx hb hd kk) h
  | ldc k =>
    have hn : n = 2 := hn.elim (fun z => Bool.noConfusion (show false = true from z)) id
    subst hn
    match o, h, hkl with
    | 0 :: v :: q :: _, h, hkl => exact zi_go_ps (v := .inl (.int (Int32.ofNat v))) (w := .int (Int32.ofNat v)) (fun _ => rfl) (fun Q H locs ls sc kk => lv_ldc hx hb hown (hts _ (zi_at_mem hkl)) hd kk) h
    | 1 :: r :: _, h, hkl =>
      have hkl : (Nat.ble (r + 1) 4 && (match zi_sr[r]? with | some z => decide (z.1 = M.1.cls) && decide (z.2.1 = k) | none => false)) = true := hkl
      rw [Bool.and_eq_true] at hkl
      have hr := Nat.le_of_ble_eq_true hkl.1
      have hkl := hkl.2
      cases hz : zi_sr[r]? with
      | none => rw [hz] at hkl; cases hkl
      | some z =>
        rw [hz] at hkl
        simp only [Bool.and_eq_true, decide_eq_true_eq] at hkl
        have hR0 := hX.2.2.1 r z hz
        rw [hkl.1, hkl.2] at hR0
        exact zi_go_ps (v := .inl (.ref r)) (w := .ref (adK r)) (fun _ => ⟨adK r, by unfold zi_ad; rw [if_pos (by omega)], rfl⟩) (fun Q H locs ls sc kk => va_ldcS hx hb hown hR0 hd kk) h
    | [], h, _ => cases h
    | [_], h, hkl => simp [zi_kl] at hkl
    | 0 :: _ :: [], _, hkl => simp [zi_kl] at hkl
    | (_ + 2) :: _ :: _, _, hkl => simp [zi_kl] at hkl
  | ldc_w k =>
    have hn : n = 3 := hn.elim (fun z => Bool.noConfusion (show false = true from z)) id
    subst hn
    match o, h, hkl with
    | 0 :: v :: q :: _, h, hkl => exact zi_go_ps (v := .inl (.int (Int32.ofNat v))) (w := .int (Int32.ofNat v)) (fun _ => rfl) (fun Q H locs ls sc kk => lv_ldcw hx hb hown (hts _ (zi_at_mem hkl)) hd kk) h
    | [], h, _ => cases h
    | [_], h, hkl => simp [zi_kl] at hkl
    | 0 :: _ :: [], _, hkl => simp [zi_kl] at hkl
    | (_ + 1) :: _ :: _, _, hkl => simp [zi_kl] at hkl
  | ldc2_w k =>
    have hn : n = 3 := hn.elim (fun z => Bool.noConfusion (show false = true from z)) id
    subst hn
    match o, h, hkl with
    | v :: q :: _, h, hkl => exact zi_go_ps (v := .inl (.long (Int64.ofNat v))) (w := .long (Int64.ofNat v)) (fun _ => rfl) (fun Q H locs ls sc kk => lv_ldc2 hx hb hown (hts _ (zi_at_mem hkl)) hd kk) h
    | [], h, _ => cases h
    | [_], h, hkl => simp [zi_kl] at hkl
  | iload k =>
    have hn : n = 2 := hn.elim (fun z => Bool.noConfusion (show false = true from z)) id
    subst hn
    exact zi_go_ld (k := 0) (fun Q H locs ls sc w hw h0 h1 kk => by
      obtain ⟨x, rfl⟩ := h0 rfl
      exact lv_iload hx hb hd hw kk) (by decide) h
  | iload_n k =>
    have hn : n = 1 := hn.elim (fun z => Bool.noConfusion (show false = true from z)) id
    subst hn
    exact zi_go_ld (k := 0) (fun Q H locs ls sc w hw h0 h1 kk => by
      obtain ⟨x, rfl⟩ := h0 rfl
      exact lv_iload_n hx hb hd rfl hw kk) (by decide) h
  | lload k =>
    have hn : n = 2 := hn.elim (fun z => Bool.noConfusion (show false = true from z)) id
    subst hn
    exact zi_go_ld (k := 1) (fun Q H locs ls sc w hw h0 h1 kk => by
      obtain ⟨x, rfl⟩ := h1 rfl
      exact lv_lload hx hb hd hw kk) (by decide) h
  | lload_n k =>
    have hn : n = 1 := hn.elim (fun z => Bool.noConfusion (show false = true from z)) id
    subst hn
    exact zi_go_ld (k := 1) (fun Q H locs ls sc w hw h0 h1 kk => by
      obtain ⟨x, rfl⟩ := h1 rfl
      exact lv_lload_n hx hb hd rfl hw kk) (by decide) h
  | aload k =>
    have hn : n = 2 := hn.elim (fun z => Bool.noConfusion (show false = true from z)) id
    subst hn
    exact zi_go_lda (fun Q H locs ls sc w hw hk kk => by
      rcases hk with rfl | ⟨a, rfl⟩
      · exact lv_aloadN hx hb hd hw kk
      · exact lv_aload hx hb hd hw kk) h
  | aload_n k =>
    have hn : n = 1 := hn.elim (fun z => Bool.noConfusion (show false = true from z)) id
    subst hn
    exact zi_go_lda (fun Q H locs ls sc w hw hk kk => by
      rcases hk with rfl | ⟨a, rfl⟩
      · exact lv_aload_nN hx hb hd rfl hw kk
      · exact lv_aload_n hx hb hd rfl hw kk) h
  | istore k =>
    have hn : n = 2 := hn.elim (fun z => Bool.noConfusion (show false = true from z)) id
    subst hn
    exact zi_go_sti (fun Q H locs ls sc x lv hl hi kk => lv_istore hx hb hd hl hi rfl kk) h
  | istore_n k =>
    have hn : n = 1 := hn.elim (fun z => Bool.noConfusion (show false = true from z)) id
    subst hn
    exact zi_go_sti (fun Q H locs ls sc x lv hl hi kk => lv_istore_n hx hb hd rfl hl hi rfl kk) h
  | lstore k =>
    have hn : n = 2 := hn.elim (fun z => Bool.noConfusion (show false = true from z)) id
    subst hn
    exact zi_go_stl (fun Q H locs ls sc x lv hl hi kk => lv_lstore hx hb hd hl hi rfl kk) h
  | lstore_n k =>
    have hn : n = 1 := hn.elim (fun z => Bool.noConfusion (show false = true from z)) id
    subst hn
    exact zi_go_stl (fun Q H locs ls sc x lv hl hi kk => lv_lstore_n hx hb hd rfl hl hi rfl kk) h
  | astore k =>
    have hn : n = 2 := hn.elim (fun z => Bool.noConfusion (show false = true from z)) id
    subst hn
    exact zi_go_sta (fun Q H locs ls sc w lv hk hl hi kk => by
      rcases hk with rfl | ⟨a, rfl⟩
      · exact lv_astoreN hx hb hd hl hi rfl kk
      · exact lv_astore hx hb hd hl hi rfl kk) h
  | astore_n k =>
    have hn : n = 1 := hn.elim (fun z => Bool.noConfusion (show false = true from z)) id
    subst hn
    exact zi_go_sta (fun Q H locs ls sc w lv hk hl hi kk => by
      rcases hk with rfl | ⟨a, rfl⟩
      · exact lv_astore_nN hx hb hd rfl hl hi rfl kk
      · exact lv_astore_n hx hb hd rfl hl hi rfl kk) h
  | iinc k z =>
    have hn : n = 3 := hn.elim (fun z => Bool.noConfusion (show false = true from z)) id
    subst hn
    exact zi_go_inc (fun Q H locs ls sc x lv j hl hj hi kk => lv_iinc hx hb hd hl hj rfl hi rfl kk) h
  | iadd =>
    have hn : n = 1 := hn.elim (fun z => Bool.noConfusion (show false = true from z)) id
    subst hn
    exact zi_go_ii (fun Q H locs ls sc x y kk => lv_iadd hx hb hd kk) h
  | isub =>
    have hn : n = 1 := hn.elim (fun z => Bool.noConfusion (show false = true from z)) id
    subst hn
    exact zi_go_ii (fun Q H locs ls sc x y kk => lv_isub hx hb hd kk) h
  | imul =>
    have hn : n = 1 := hn.elim (fun z => Bool.noConfusion (show false = true from z)) id
    subst hn
    exact zi_go_ii (fun Q H locs ls sc x y kk => lv_imul hx hb hd kk) h
  | iand =>
    have hn : n = 1 := hn.elim (fun z => Bool.noConfusion (show false = true from z)) id
    subst hn
    exact zi_go_ii (fun Q H locs ls sc x y kk => lv_iand hx hb hd kk) h
  | ior =>
    have hn : n = 1 := hn.elim (fun z => Bool.noConfusion (show false = true from z)) id
    subst hn
    exact zi_go_ii (fun Q H locs ls sc x y kk => lv_ior hx hb hd kk) h
  | ixor =>
    have hn : n = 1 := hn.elim (fun z => Bool.noConfusion (show false = true from z)) id
    subst hn
    exact zi_go_ii (fun Q H locs ls sc x y kk => lv_ixor hx hb hd kk) h
  | ishl =>
    have hn : n = 1 := hn.elim (fun z => Bool.noConfusion (show false = true from z)) id
    subst hn
    exact zi_go_ii (fun Q H locs ls sc x y kk => lv_ishl hx hb hd kk) h
  | ishr =>
    have hn : n = 1 := hn.elim (fun z => Bool.noConfusion (show false = true from z)) id
    subst hn
    exact zi_go_ii (fun Q H locs ls sc x y kk => lv_ishr hx hb hd kk) h
  | iushr =>
    have hn : n = 1 := hn.elim (fun z => Bool.noConfusion (show false = true from z)) id
    subst hn
    exact zi_go_ii (fun Q H locs ls sc x y kk => lv_iushr hx hb hd rfl kk) h
  | idiv =>
    have hn : n = 1 := hn.elim (fun z => Bool.noConfusion (show false = true from z)) id
    subst hn
    exact zi_go_iz (fun Q H locs ls sc x y hz kk => lv_idiv hx hb hd hz kk) h
  | irem =>
    have hn : n = 1 := hn.elim (fun z => Bool.noConfusion (show false = true from z)) id
    subst hn
    exact zi_go_iz (fun Q H locs ls sc x y hz kk => lv_irem hx hb hd hz kk) h
  | ldiv =>
    have hn : n = 1 := hn.elim (fun z => Bool.noConfusion (show false = true from z)) id
    subst hn
    exact zi_go_lz (fun Q H locs ls sc x y hz kk => zi_ldiv hx hb hd hz kk) h
  | lrem =>
    have hn : n = 1 := hn.elim (fun z => Bool.noConfusion (show false = true from z)) id
    subst hn
    exact zi_go_lz (fun Q H locs ls sc x y hz kk => zi_lrem hx hb hd hz kk) h
  | lookupswitch dd ps =>
    exact zi_go_lsw (fun Q H locs ls sc x t ht kk => lv_lookup hx hb hd hkl rfl ht kk) h
  | ladd =>
    have hn : n = 1 := hn.elim (fun z => Bool.noConfusion (show false = true from z)) id
    subst hn
    exact zi_go_ll (fun Q H locs ls sc x y kk => lv_ladd hx hb hd kk) h
  | lsub =>
    have hn : n = 1 := hn.elim (fun z => Bool.noConfusion (show false = true from z)) id
    subst hn
    exact zi_go_ll (fun Q H locs ls sc x y kk => lv_lsub hx hb hd kk) h
  | lmul =>
    have hn : n = 1 := hn.elim (fun z => Bool.noConfusion (show false = true from z)) id
    subst hn
    exact zi_go_ll (fun Q H locs ls sc x y kk => lv_lmul hx hb hd kk) h
  | land =>
    have hn : n = 1 := hn.elim (fun z => Bool.noConfusion (show false = true from z)) id
    subst hn
    exact zi_go_ll (fun Q H locs ls sc x y kk => lv_land hx hb hd kk) h
  | lor =>
    have hn : n = 1 := hn.elim (fun z => Bool.noConfusion (show false = true from z)) id
    subst hn
    exact zi_go_ll (fun Q H locs ls sc x y kk => lv_lor hx hb hd kk) h
  | lxor =>
    have hn : n = 1 := hn.elim (fun z => Bool.noConfusion (show false = true from z)) id
    subst hn
    exact zi_go_ll (fun Q H locs ls sc x y kk => lv_lxor hx hb hd kk) h
  | lcmp =>
    have hn : n = 1 := hn.elim (fun z => Bool.noConfusion (show false = true from z)) id
    subst hn
    exact zi_go_lc (fun Q H locs ls sc x y kk => W.lcmp hx hb hd kk) h
  | lshl =>
    have hn : n = 1 := hn.elim (fun z => Bool.noConfusion (show false = true from z)) id
    subst hn
    exact zi_go_lw (fun Q H locs ls sc x y kk => lv_lshl hx hb hd rfl kk) h
  | lshr =>
    have hn : n = 1 := hn.elim (fun z => Bool.noConfusion (show false = true from z)) id
    subst hn
    exact zi_go_lw (fun Q H locs ls sc x y kk => lv_lshr hx hb hd rfl kk) h
  | lushr =>
    have hn : n = 1 := hn.elim (fun z => Bool.noConfusion (show false = true from z)) id
    subst hn
    exact zi_go_lw (fun Q H locs ls sc x y kk => lv_lushr hx hb hd rfl kk) h
  | ineg =>
    have hn : n = 1 := hn.elim (fun z => Bool.noConfusion (show false = true from z)) id
    subst hn
    exact zi_go_i1 (op := fun x => .int (-x)) (fun _ _ => rfl) (fun Q H locs ls sc x kk => lv_ineg hx hb hd kk) h
  | i2l =>
    have hn : n = 1 := hn.elim (fun z => Bool.noConfusion (show false = true from z)) id
    subst hn
    exact zi_go_i1 (op := fun x => .long x.toInt64) (fun _ _ => rfl) (fun Q H locs ls sc x kk => lv_i2l hx hb hd rfl kk) h
  | i2c =>
    have hn : n = 1 := hn.elim (fun z => Bool.noConfusion (show false = true from z)) id
    subst hn
    exact zi_go_i1 (op := fun x => .int (x.toUInt32 % 65536).toInt32) (fun _ _ => rfl) (fun Q H locs ls sc x kk => lv_i2c hx hb hd rfl kk) h
  | i2b =>
    have hn : n = 1 := hn.elim (fun z => Bool.noConfusion (show false = true from z)) id
    subst hn
    exact zi_go_i1 (op := fun x => .int x.toInt8.toInt32) (fun _ _ => rfl) (fun Q H locs ls sc x kk => lv_i2b hx hb hd rfl kk) h
  | l2i =>
    have hn : n = 1 := hn.elim (fun z => Bool.noConfusion (show false = true from z)) id
    subst hn
    exact zi_go_l1 (op := fun x => .int x.toInt32) (fun _ _ => rfl) (fun Q H locs ls sc x kk => lv_l2i hx hb hd rfl kk) h
  | lneg =>
    have hn : n = 1 := hn.elim (fun z => Bool.noConfusion (show false = true from z)) id
    subst hn
    exact zi_go_l1 (op := fun x => .long (-x)) (fun _ _ => rfl) (fun Q H locs ls sc x kk => lv_lneg hx hb hd kk) h
  | dup =>
    have hn : n = 1 := hn.elim (fun z => Bool.noConfusion (show false = true from z)) id
    subst hn
    exact zi_go_dup (fun Q H locs ls sc w hw kk => lv_dup hx hb hd hw kk) h
  | pop =>
    have hn : n = 1 := hn.elim (fun z => Bool.noConfusion (show false = true from z)) id
    subst hn
    exact zi_go_pop (fun Q H locs ls sc w hw kk => lv_pop hx hb hd hw kk) h
  | dup2 =>
    have hn : n = 1 := hn.elim (fun z => Bool.noConfusion (show false = true from z)) id
    subst hn
    exact zi_go_dup2 (fun Q H locs ls sc w hw kk => lv_dup2_2 hx hb hd hw kk) (fun Q H locs ls sc v w hv hw kk => lv_dup2_11 hx hb hd hv hw kk) h
  | ifCond k off =>
    have hn : n = 3 := hn.elim (fun z => Bool.noConfusion (show false = true from z)) id
    subst hn
    match o, h, hkl with
    | [], h, _ => cases h
    | t :: ts, h, hkl =>
      have ht := zi_tg_ok (ts := ts) hkl
      refine zi_go_if1 (fun Q H locs ls sc x kt kf => ?_) h
      cases k with
      | eq => exact lv_if_eq hx hb hd ht kt kf
      | ne => exact lv_if_ne hx hb hd ht kt (fun z => kf (fun w => w z))
      | lt => exact lv_if_lt hx hb hd ht kt kf
      | ge => exact lv_if_ge hx hb hd ht kt kf
      | gt => exact lv_if_gt hx hb hd ht kt kf
      | le => exact lv_if_le hx hb hd ht kt kf
  | if_icmp k off =>
    have hn : n = 3 := hn.elim (fun z => Bool.noConfusion (show false = true from z)) id
    subst hn
    match o, h, hkl with
    | [], h, _ => cases h
    | t :: ts, h, hkl =>
      have ht := zi_tg_ok (ts := ts) hkl
      refine zi_go_if2 (fun Q H locs ls sc x y kt kf => ?_) h
      cases k with
      | eq => exact lv_icmp_eq hx hb hd ht kt kf
      | ne => exact lv_icmp_ne hx hb hd ht kt (fun z => kf (fun w => w z))
      | lt => exact lv_icmp_lt hx hb hd ht kt kf
      | ge => exact lv_icmp_ge hx hb hd ht kt kf
      | gt => exact lv_icmp_gt hx hb hd ht kt kf
      | le => exact lv_icmp_le hx hb hd ht kt kf
  | goto off =>
    have hn : n = 3 := hn.elim (fun z => Bool.noConfusion (show false = true from z)) id
    subst hn
    match o, h, hkl with
    | [], h, _ => cases h
    | t :: ts, h, hkl =>
      have ht := zi_tg_ok (ts := ts) hkl
      cases h
      intro Q ws H locs ls sc hS _ _ kk
      exact lv_goto hx hb hd ht (kk ws H locs ls sc (zi_ex_refl ws) hS)
  | ifnull off =>
    have hn : n = 3 := hn.elim (fun z => Bool.noConfusion (show false = true from z)) id
    subst hn
    match o, h, hkl with
    | [], h, _ => cases h
    | t :: ts, h, hkl =>
      have ht := zi_tg_ok (ts := ts) hkl
      exact zi_go_nul (k := true) (tgt := t) (n := 3) (fun Q H locs ls sc kk => lv_ifnullN hx hb hd ht kk) (fun Q H locs ls sc a kk => lv_ifnull hx hb hd kk) h
  | ifnonnull off =>
    have hn : n = 3 := hn.elim (fun z => Bool.noConfusion (show false = true from z)) id
    subst hn
    match o, h, hkl with
    | [], h, _ => cases h
    | t :: ts, h, hkl =>
      have ht := zi_tg_ok (ts := ts) hkl
      exact zi_go_nul (k := false) (tgt := t) (n := 3) (fun Q H locs ls sc kk => lv_ifnonnullN hx hb hd kk) (fun Q H locs ls sc a kk => lv_ifnonnull hx hb hd ht kk) h
  | tableswitch dd lo hi offs =>
    have hkl : (zi_tg pc dd o && decide (offs.toList.map (fun x => (pc : Int) + x) = o.tail.map (fun (t : Nat) => (t : Int)))) = true := hkl
    rw [Bool.and_eq_true, decide_eq_true_eq] at hkl
    refine zi_go_tsw (fun Q H locs ls sc x t ts eo hlo kk => ?_) (fun Q H locs ls sc x t0 t ts eo h1 h2 ht kk => ?_) h
    · subst eo
      exact lv_tableOut hx hb hd hlo (zi_tg_ok hkl.1) kk
    · subst eo
      have e1 : (offs.toList.map (fun x => (pc : Int) + x))[(x.toInt - lo).toNat]? = some (t : Int) := by
        rw [hkl.2]
        show (ts.map (fun (t : Nat) => (t : Int)))[(x.toInt - lo).toNat]? = _
        rw [List.getElem?_map, ht]
        rfl
      rw [List.getElem?_map] at e1
      cases ho : offs.toList[(x.toInt - lo).toNat]? with
      | none => rw [ho] at e1; cases e1
      | some off =>
        rw [ho] at e1
        exact lv_tableIn hx hb hd h1 h2 (by rw [← Array.getElem?_toList]; exact ho) (Option.some.inj e1) kk
  | getfield k0 =>
    have hn : n = 3 := hn.elim (fun z => Bool.noConfusion (show false = true from z)) id
    subst hn
    match o, h, hkl with
    | [], h, _ => cases h
    | [_], h, _ => cases h
    | [_, _], _, hkl => cases hkl
    | ci :: k :: q :: _, h, hkl =>
      have hkl : (bif Nat.beq ci 100 then (bif Nat.beq k 0 then zi_at q (.fieldLink M.1.cls k0 "java/lang/String" "value" "[B") else Nat.beq k 1 && zi_at q (.fieldLink M.1.cls k0 "java/lang/String" "coder" "B")) else (match zi_Fs[ci]? with | some z => Nat.ble (k + 1) z.2.length && zi_at q (.fieldLink M.1.cls k0 (zi_Tf z k).1 (zi_Tf z k).2.1 (zi_Tf z k).2.2.1) | none => false)) = true := hkl
      refine zi_go_get C0 hd (fun hci => ?_) (fun hci => ?_) h
      · rw [show Nat.beq ci 100 = false from by
          cases hz : Nat.beq ci 100 with
          | false => rfl
          | true => exact absurd (Nat.eq_of_beq_eq_true hz) hci] at hkl
        simp only [cond_false] at hkl
        cases hz : zi_Fs[ci]? with
        | none => rw [hz] at hkl; cases hkl
        | some z =>
          rw [hz] at hkl
          simp only [Bool.and_eq_true] at hkl
          exact ⟨z, rfl, Nat.le_of_ble_eq_true hkl.1, zi_at_mem hkl.2⟩
      · subst hci
        refine ⟨fun hk => ?_, fun hk => ?_⟩
        · subst hk
          exact zi_at_mem (show zi_at q _ = true from hkl)
        · subst hk
          exact zi_at_mem (show zi_at q _ = true from hkl)
  | putfield k0 =>
    have hn : n = 3 := hn.elim (fun z => Bool.noConfusion (show false = true from z)) id
    subst hn
    match o, h, hkl with
    | [], h, _ => cases h
    | [_], h, _ => cases h
    | [_, _], _, hkl => cases hkl
    | ci :: k :: q :: _, h, hkl =>
      have hkl : (match zi_Fs[ci]? with | some z => Nat.ble (k + 1) z.2.length && zi_at q (.fieldLink M.1.cls k0 (zi_Tf z k).1 (zi_Tf z k).2.1 (zi_Tf z k).2.2.1) && (!(zi_Tf z k).2.2.2 || (decide (M.1.name = "<init>") && decide ((zi_Tf z k).1 = M.1.cls))) | none => false) = true := hkl
      cases hz : zi_Fs[ci]? with
      | none => rw [hz] at hkl; cases hkl
      | some z =>
        rw [hz] at hkl
        simp only [Bool.and_eq_true, Bool.or_eq_true, Bool.not_eq_true', decide_eq_true_eq] at hkl
        refine zi_go_put C0 hd ⟨z, hz, Nat.le_of_ble_eq_true hkl.1.1, zi_at_mem hkl.1.2, fun hf => ?_⟩ h
        rcases hkl.2 with w | w
        · rw [hf] at w; cases w
        · exact w
  | getstatic k0 =>
    have hn : n = 3 := hn.elim (fun z => Bool.noConfusion (show false = true from z)) id
    subst hn
    match o, h, hkl with
    | [], h, _ => cases h
    | [_], _, hkl => cases hkl
    | k :: q :: _, h, hkl =>
      have hkl : (bif Nat.beq k 0 then zi_at q (.fieldLink M.1.cls k0 "java/lang/String" "COMPACT_STRINGS" "Z") else zi_at q (.fieldLink M.1.cls k0 "jdk/internal/util/Preconditions" "SIOOBE_FORMATTER" "Ljava/util/function/BiFunction;")) = true := hkl
      refine zi_go_gts C0 hd (fun hk => ?_) (fun hk => ?_) h
      · subst hk
        exact zi_at_mem (show zi_at q _ = true from hkl)
      · rw [show Nat.beq k 0 = false from by
          cases hz : Nat.beq k 0 with
          | false => rfl
          | true => exact absurd (Nat.eq_of_beq_eq_true hz) hk] at hkl
        exact zi_at_mem (show zi_at q _ = true from hkl)
  | arraylength =>
    have hn : n = 1 := hn.elim (fun z => Bool.noConfusion (show false = true from z)) id
    subst hn
    exact zi_go_len C0 hd h
  | iaload =>
    have hn : n = 1 := hn.elim (fun z => Bool.noConfusion (show false = true from z)) id
    subst hn
    exact zi_go_iald C0 hd h
  | laload =>
    have hn : n = 1 := hn.elim (fun z => Bool.noConfusion (show false = true from z)) id
    subst hn
    exact zi_go_lald C0 hd h
  | baload =>
    have hn : n = 1 := hn.elim (fun z => Bool.noConfusion (show false = true from z)) id
    subst hn
    exact zi_go_bald C0 hd h
  | caload =>
    have hn : n = 1 := hn.elim (fun z => Bool.noConfusion (show false = true from z)) id
    subst hn
    exact zi_go_cald C0 hd h
  | aaload =>
    have hn : n = 1 := hn.elim (fun z => Bool.noConfusion (show false = true from z)) id
    subst hn
    exact zi_go_aald C0 hd h
  | iastore =>
    have hn : n = 1 := hn.elim (fun z => Bool.noConfusion (show false = true from z)) id
    subst hn
    exact zi_go_iast C0 hd h
  | lastore =>
    have hn : n = 1 := hn.elim (fun z => Bool.noConfusion (show false = true from z)) id
    subst hn
    exact zi_go_last C0 hd h
  | bastore =>
    have hn : n = 1 := hn.elim (fun z => Bool.noConfusion (show false = true from z)) id
    subst hn
    exact zi_go_zast C0 hd h
  | castore =>
    have hn : n = 1 := hn.elim (fun z => Bool.noConfusion (show false = true from z)) id
    subst hn
    exact zi_go_cast C0 hd h
  | aastore =>
    have hn : n = 1 := hn.elim (fun z => Bool.noConfusion (show false = true from z)) id
    subst hn
    exact zi_go_aast C0 hd h
  | new k0 =>
    have hn : n = 3 := hn.elim (fun z => Bool.noConfusion (show false = true from z)) id
    subst hn
    match o, h, hkl with
    | [], h, _ => cases h
    | [_], _, hkl => cases hkl
    | [_, _], _, hkl => cases hkl
    | [_, _, _], _, hkl => cases hkl
    | ci :: q1 :: q2 :: q3 :: _, h, hkl =>
      have hkl : (match zi_Fs[ci]? with | some z => zi_at q1 (.classLink M.1.cls k0 z.1) && zi_at q2 (.instantiable z.1 z.2.length) && zi_at q3 (.initialized z.1) | none => false) = true := hkl
      cases hz : zi_Fs[ci]? with
      | none => rw [hz] at hkl; cases hkl
      | some z =>
        rw [hz] at hkl
        simp only [Bool.and_eq_true] at hkl
        exact zi_go_nw C0 hd ⟨z, hz, zi_at_mem hkl.1.1, zi_at_mem hkl.1.2, zi_at_mem hkl.2⟩ h
  | newarray a0 =>
    have hn : n = 2 := hn.elim (fun z => Bool.noConfusion (show false = true from z)) id
    subst hn
    match o, h, hkl with
    | [], h, _ => cases h
    | [_], _, hkl => cases hkl
    | t :: q :: _, h, hkl =>
      have hkl : (decide (newarray.typeOf a0 = zi_ft t) && Nat.ble (t + 1) 4 && zi_at q (.arrayClass (newarray.typeOf a0))) = true := hkl
      simp only [Bool.and_eq_true, decide_eq_true_eq] at hkl
      exact zi_go_nwa C0 hd hkl.1.1 (Nat.le_of_ble_eq_true hkl.1.2) (zi_at_mem hkl.2) h
  | anewarray k0 =>
    have hn : n = 3 := hn.elim (fun z => Bool.noConfusion (show false = true from z)) id
    subst hn
    match o, h, hkl with
    | [], h, _ => cases h
    | [_], _, hkl => cases hkl
    | t :: q :: _, h, hkl =>
      have hkl : (Nat.ble 4 t && Nat.ble t 6 && (match zi_ft t with | .object Cn => zi_at q (.classLink M.1.cls k0 Cn) | _ => false)) = true := hkl
      simp only [Bool.and_eq_true] at hkl
      have h4 := Nat.le_of_ble_eq_true hkl.1.1
      have h6 := Nat.le_of_ble_eq_true hkl.1.2
      obtain ⟨Cn, hCn⟩ : ∃ Cn, zi_ft t = .object Cn := by
        rcases (show t = 4 ∨ t = 5 ∨ t = 6 by omega) with z | z | z <;> (rw [z]; exact ⟨_, rfl⟩)
      have hq := hkl.2
      rw [hCn] at hq
      exact zi_go_nwq C0 hd hCn h4 (by omega) (zi_at_mem hq) h
  | invokestatic k0 =>
    have hn : n = 3 := hn.elim (fun z => Bool.noConfusion (show false = true from z)) id
    subst hn
    match o, h, hkl with
    | [], h, _ => cases h
    | [z], h, hkl =>
      have h : (bif Nat.ble (zi_cats st) 10 then zi_mm z pc 3 al st A nc ns else none) = some (.inl g) := h
      have hkl : (bif Nat.beq z 0 then zi_mem (.methodLink M.1.cls k0 Lib.Math.max.name) else zi_mem (.methodLink M.1.cls k0 Lib.Math.min.name)) = true := hkl
      cases hb1 : Nat.ble (zi_cats st) 10 with
      | false => rw [hb1] at h; cases h
      | true =>
        rw [hb1] at h
        refine zi_go_mm C0 hd (fun hz => ?_) (fun hz => ?_) (Nat.le_of_ble_eq_true hb1) h
        · subst hz
          exact zi_mem_ok hkl
        · rw [show Nat.beq z 0 = false from by
            cases hq : Nat.beq z 0 with
            | false => rfl
            | true => exact absurd (Nat.eq_of_beq_eq_true hq) hz] at hkl
          exact zi_mem_ok hkl
    | [_, _], _, hkl => cases hkl
    | [_, _, _], _, hkl => cases hkl
    | [_, _, _, _], _, hkl => cases hkl
    | mi :: k :: z :: q1 :: q2 :: _, h, hkl =>
      refine zi_go_invS C0 hct hd (fun N hN => ?_) h
      have hkl : (match Ms[mi]? with | some N => (bif Nat.beq z 0 then zi_at q1 (.methodLink M.1.cls k0 N.1) else decide ((M.1.cls, k0, N.1, "AgreeTold") ∈ zi_nest)) && zi_at q2 (.static N.1) && decide ((parseMethodDescriptor N.1.desc).map (fun d => d.parameters.length) = some k) | none => false) = true := hkl
      rw [hN] at hkl
      simp only [Bool.and_eq_true, decide_eq_true_eq] at hkl
      refine ⟨hMs mi N hN, ?_, zi_at_mem hkl.1.2, hkl.2⟩
      have h1 := hkl.1.1
      cases hz : Nat.beq z 0 with
      | true => rw [hz] at h1; exact Or.inl (zi_at_mem h1)
      | false => rw [hz] at h1; exact Or.inr (of_decide_eq_true h1)
  | invokespecial k0 =>
    have hn : n = 3 := hn.elim (fun z => Bool.noConfusion (show false = true from z)) id
    subst hn
    match o, h, hkl with
    | [], h, hkl => exact zi_go_obj C0 hd (zi_mem_ok hkl) zi_objw.1 zi_objw.2 h
    | [_], h, _ => cases h
    | [_, _], _, hkl => cases hkl
    | [_, _, _], _, hkl => cases hkl
    | [_, _, _, _], _, hkl => cases hkl
    | mi :: k :: z :: q1 :: q2 :: _, h, hkl =>
      have h : (match st[k - 1]? with | some (.inl (.ref _)) => bif Nat.ble 1 k then zi_inv call pc 3 al st A nc ns mi k else none | _ => none) = some (.inl g) := h
      split at h
      · rename_i r hr
        cases hb1 : Nat.ble 1 k with
        | false => rw [hb1] at h; cases h
        | true =>
          rw [hb1] at h
          refine zi_go_invI C0 hct hd (fun N hN => ?_) (Nat.le_of_ble_eq_true hb1) hr h
          have hkl : (match Ms[mi]? with | some N => (bif Nat.beq z 0 then zi_at q1 (.methodLink M.1.cls k0 N.1) else decide ((M.1.cls, k0, N.1, "AgreeTold") ∈ zi_nest)) && zi_at q2 (.instanceMethod N.1) && decide (N.1.name = "<init>") && decide (N.2.2.2.1 = none) && decide ((parseMethodDescriptor N.1.desc).map (fun d => d.parameters.length + 1) = some k) | none => false) = true := hkl
          rw [hN] at hkl
          simp only [Bool.and_eq_true, decide_eq_true_eq] at hkl
          refine ⟨hMs mi N hN, ?_, zi_at_mem hkl.1.1.1.2, hkl.1.1.2, hkl.1.2, hkl.2⟩
          have h1 := hkl.1.1.1.1
          cases hz : Nat.beq z 0 with
          | true => rw [hz] at h1; exact Or.inl (zi_at_mem h1)
          | false => rw [hz] at h1; exact Or.inr (of_decide_eq_true h1)
      · cases h
  | invokevirtual k0 =>
    have hn : n = 3 := hn.elim (fun z => Bool.noConfusion (show false = true from z)) id
    subst hn
    match o, h, hkl with
    | [], h, _ => cases h
    | [_], h, _ => cases h
    | [_, _], h, _ => cases h
    | [_, _, _], _, hkl => cases hkl
    | [_, _, _, _], _, hkl => cases hkl
    | [_, _, _, _, _], _, hkl => cases hkl
    | mi :: k :: ci :: q1 :: q2 :: q3 :: _, h, hkl =>
      have h : (bif Nat.ble 1 k && zi_rcv A ci st[k - 1]? then zi_inv call pc 3 al st A nc ns mi k else none) = some (.inl g) := h
      cases hb1 : (Nat.ble 1 k && zi_rcv A ci st[k - 1]?) with
      | false => rw [hb1] at h; cases h
      | true =>
        rw [hb1] at h
        rw [Bool.and_eq_true] at hb1
        refine zi_go_invV C0 hct hd (fun N hN => ?_) (Nat.le_of_ble_eq_true hb1.1) hb1.2 h
        have hkl : (match Ms[mi]? with | some N => zi_at q1 (.methodLink M.1.cls k0 N.1) && zi_at q2 (.instanceMethod N.1) && zi_at q3 (.selects N.1.cls N.1 N.1) && (bif Nat.beq ci 100 then decide (N.1.cls = "java/lang/String") else (match zi_Fs[ci]? with | some z => decide (z.1 = N.1.cls) | none => false)) && decide ((parseMethodDescriptor N.1.desc).map (fun d => d.parameters.length + 1) = some k) | none => false) = true := hkl
        rw [hN] at hkl
        simp only [Bool.and_eq_true, decide_eq_true_eq] at hkl
        refine ⟨hMs mi N hN, zi_at_mem hkl.1.1.1.1, zi_at_mem hkl.1.1.1.2, zi_at_mem hkl.1.1.2, ?_, hkl.2⟩
        have h1 := hkl.1.2
        cases hz : Nat.beq ci 100 with
        | true =>
          rw [hz] at h1
          exact Or.inl ⟨Nat.eq_of_beq_eq_true hz, of_decide_eq_true h1⟩
        | false =>
          rw [hz] at h1
          simp only [cond_false] at h1
          cases hq : zi_Fs[ci]? with
          | none => rw [hq] at h1; cases h1
          | some q =>
            rw [hq] at h1
            exact Or.inr ⟨Nat.ne_of_beq_eq_false hz, q, rfl, of_decide_eq_true h1⟩
  | ireturn =>
    exact absurd h (zi_ret_no _ _)
  | lreturn =>
    exact absurd h (zi_ret_no _ _)
  | areturn =>
    exact absurd h (zi_ret_no _ _)
  | return_ =>
    exact absurd h (zi_rtv_no _ _)
  | _ => cases h
end ZT
