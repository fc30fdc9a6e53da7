/-! What a run can reach: the check of a table, the whole run. -/
def cp_ar (ff dp : Nat → Bool) (fl : List Bool) (mi k : Nat) : Bool := ff mi && !((fl.take (k - 1)).any id) && !(fl.getD (k - 1) false && !(dp mi)) && !((fl.drop k).any id)
/-- which of the stack's values may be guarded ones behind an instruction; none: it is not allowed -/
def cp_tr (fg fp : Nat → Nat → Bool) (ff dp dl : Nat → Bool) (i : Instr) (o : List Nat) (fl : List Bool) : Option (List Bool) := match i with
  | .iconst _ => some (false :: fl)
  | .bipush _ => some (false :: fl)
  | .sipush _ => some (false :: fl)
  | .lconst _ => some (false :: fl)
  | .aconst_null => some (false :: fl)
  | .ldc _ => (match o with | 1 :: r :: _ => if r < 10 then some (false :: fl) else none | _ => some (false :: fl))
  | .ldc_w _ => some (false :: fl)
  | .ldc2_w _ => some (false :: fl)
  | .iload _ => some (false :: fl)
  | .iload_n _ => some (false :: fl)
  | .lload _ => some (false :: fl)
  | .lload_n _ => some (false :: fl)
  | .aload k => some (dl k :: fl)
  | .aload_n k => some (dl k.val :: fl)
  | .istore _ => some fl.tail
  | .istore_n _ => some fl.tail
  | .lstore _ => some fl.tail
  | .lstore_n _ => some fl.tail
  | .astore k => (bif fl.headD false && !(dl k) then none else some fl.tail)
  | .astore_n k => (bif fl.headD false && !(dl k.val) then none else some fl.tail)
  | .iinc _ _ => some fl
  | .iadd => some (false :: fl.tail.tail)
  | .isub => some (false :: fl.tail.tail)
  | .imul => some (false :: fl.tail.tail)
  | .iand => some (false :: fl.tail.tail)
  | .ior => some (false :: fl.tail.tail)
  | .ixor => some (false :: fl.tail.tail)
  | .ishl => some (false :: fl.tail.tail)
  | .ishr => some (false :: fl.tail.tail)
  | .iushr => some (false :: fl.tail.tail)
  | .idiv => some (false :: fl.tail.tail)
  | .irem => some (false :: fl.tail.tail)
  | .ladd => some (false :: fl.tail.tail)
  | .lsub => some (false :: fl.tail.tail)
  | .lmul => some (false :: fl.tail.tail)
  | .land => some (false :: fl.tail.tail)
  | .lor => some (false :: fl.tail.tail)
  | .lxor => some (false :: fl.tail.tail)
  | .ldiv => some (false :: fl.tail.tail)
  | .lrem => some (false :: fl.tail.tail)
  | .lcmp => some (false :: fl.tail.tail)
  | .lshl => some (false :: fl.tail.tail)
  | .lshr => some (false :: fl.tail.tail)
  | .lushr => some (false :: fl.tail.tail)
  | .ineg => some (false :: fl.tail)
  | .i2b => some (false :: fl.tail)
  | .i2c => some (false :: fl.tail)
  | .i2l => some (false :: fl.tail)
  | .l2i => some (false :: fl.tail)
  | .lneg => some (false :: fl.tail)
  | .dup => some (fl.headD false :: fl)
  | .pop => some fl.tail
  | .dup2 => (bif fl.any id then none else some [])
  | .ifCond _ _ => some fl.tail
  | .if_icmp _ _ => some fl.tail.tail
  | .goto _ => some fl
  | .ifnull _ => some fl.tail
  | .ifnonnull _ => some fl.tail
  | .tableswitch _ _ _ _ => some fl.tail
  | .lookupswitch _ _ => some fl.tail
  | .getfield _ => (match o with | ci :: k :: _ => some (fg ci k :: fl.tail) | _ => some [])
  | .putfield _ => (match o with | ci :: k :: _ => (bif fl.headD false || fl.tail.headD false || fp ci k then none else some fl.tail.tail) | _ => some [])
  | .getstatic _ => some (false :: fl)
  | .arraylength => some (false :: fl.tail)
  | .iaload => some (false :: fl.tail.tail)
  | .laload => some (false :: fl.tail.tail)
  | .baload => some (false :: fl.tail.tail)
  | .caload => some (false :: fl.tail.tail)
  | .aaload => some (false :: fl.tail.tail)
  | .iastore => (bif fl.tail.tail.headD false || fl.headD false then none else some fl.tail.tail.tail)
  | .lastore => (bif fl.tail.tail.headD false || fl.headD false then none else some fl.tail.tail.tail)
  | .bastore => (bif fl.tail.tail.headD false || fl.headD false then none else some fl.tail.tail.tail)
  | .castore => (bif fl.tail.tail.headD false || fl.headD false then none else some fl.tail.tail.tail)
  | .aastore => (bif fl.tail.tail.headD false || fl.headD false then none else some fl.tail.tail.tail)
  | .new _ => some (false :: fl)
  | .newarray _ => some (false :: fl.tail)
  | .anewarray _ => some (false :: fl.tail)
  | .invokestatic _ => (match o with | [_] => some (false :: fl.tail.tail) | mi :: k :: _ => (bif cp_ar ff dp fl mi k then some [] else none) | _ => some [])
  | .invokespecial _ => (match o with | [] => some fl.tail | mi :: k :: _ => (bif cp_ar ff dp fl mi k then some [] else none) | _ => some [])
  | .invokevirtual _ => (match o with | mi :: k :: _ :: _ => (bif cp_ar ff dp fl mi k then some [] else none) | _ => some [])
  | .ireturn => (bif fl.headD false then none else some [])
  | .lreturn => (bif fl.headD false then none else some [])
  | .areturn => (bif fl.headD false then none else some [])
  | .return_ => some []
  | _ => some []
section CP
variable {pr : Nat → Bool} {sl ps : Nat → Nat → Bool} {ko : Nat → Nat} {fg fp : Nat → Nat → Bool} {ff dp dl : Nat → Bool} {fl fl' : List Bool} {pc n nL : Nat} {al : List (Nat × yi_V)} {st : List yi_V} {H : yi_H} {nc ns : Nat} {call : yi_K} {ret : Option FieldType} {i : Instr} {o : List Nat}
theorem cp_bn {c : Bool} {f2 : List Bool} (h : (bif c then none else some f2) = some fl') : c = false ∧ f2 = fl' := by
  cases c with
  | true => cases h
  | false => exact ⟨rfl, Option.some.inj h⟩
theorem cp_arn {mi k : Nat} (h : (bif cp_ar ff dp fl mi k then some [] else none) = some fl') : ff mi = true ∧ (fl.take (k - 1)).any id = false ∧ (fl.getD (k - 1) false && !(dp mi)) = false ∧ (fl.drop k).any id = false ∧ [] = fl' := by
  cases hb : cp_ar ff dp fl mi k with
  | false => rw [hb] at h; cases h
  | true =>
    rw [hb] at h
    unfold cp_ar at hb
    rw [Bool.and_eq_true, Bool.and_eq_true, Bool.and_eq_true, Bool.not_eq_true', Bool.not_eq_true', Bool.not_eq_true'] at hb
    exact ⟨hb.1.1.1, hb.1.1.2, hb.1.2, hb.2, Option.some.inj h⟩
theorem cp_do (h10 : ∀ q, pr q = true → 10 ≤ q) (hko : ∀ p k, sl p k = true ∨ ps p k = true → ko p < 20) (hfg : ∀ p k, sl p k = true → fg (ko p) k = true) (hfp : ∀ p k, ps p k = true → fp (ko p) k = true) (hc : cp_cl pr sl ps ko ff dp call) (ha : cp_al pr dl al) (hs : cp_sf pr fl st) (hi : cp_I pr sl ps ko H) (htr : cp_tr fg fp ff dp dl i o fl = some fl') : cp_O pr sl ps ko dl fl' H (yi_do call [] nL ret pc al st H nc ns i n o) := by
  cases i with
  | iconst k =>
    cases htr
    exact cp_bif (cp_ps (cp_Vi _) ha hs hi)
  | bipush k =>
    cases htr
    exact cp_bif (cp_ps (cp_Vi _) ha hs hi)
  | sipush k =>
    cases htr
    exact cp_bif (cp_ps (cp_Vi _) ha hs hi)
  | lconst k =>
    cases htr
    exact cp_ps (cp_Vl _) ha hs hi
  | aconst_null =>
    cases htr
    exact cp_ps cp_Vn ha hs hi
  | ldc j =>
    match o, htr with
    | [], _ => exact cp_none
    | [0], _ => exact cp_none
    | [1], _ => exact cp_none
    | [_ + 2], _ => exact cp_none
    | 0 :: v :: _, htr => cases htr; exact cp_ps (cp_Vi _) ha hs hi
    | 1 :: r :: _, htr =>
      have htr : (if r < 10 then some (false :: fl) else none) = some fl' := htr
      split at htr
      · rename_i hr
        cases htr
        refine cp_ps (fun q e => ?_) ha hs hi
        have e : some r = some q := Sum.inr.inj (Sum.inr.inj e)
        cases e
        cases hp : pr r with
        | false => rfl
        | true => have := h10 r hp; omega
      · cases htr
    | (_ + 2) :: _ :: _, _ => exact cp_none
  | ldc_w j =>
    cases htr
    match o with
    | [] => exact cp_none
    | [0] => exact cp_none
    | [_ + 1] => exact cp_none
    | 0 :: v :: _ => exact cp_ps (cp_Vi _) ha hs hi
    | (_ + 1) :: _ :: _ => exact cp_none
  | ldc2_w j =>
    cases htr
    match o with
    | [] => exact cp_none
    | v :: _ => exact cp_ps (cp_Vl _) ha hs hi
  | iload k =>
    cases htr
    exact cp_ld (by omega) ha hs hi
  | iload_n k =>
    cases htr
    exact cp_ld (by omega) ha hs hi
  | lload k =>
    cases htr
    exact cp_ld (by omega) ha hs hi
  | lload_n k =>
    cases htr
    exact cp_ld (by omega) ha hs hi
  | aload k =>
    cases htr
    exact cp_lda ha hs hi
  | aload_n k =>
    cases htr
    exact cp_lda ha hs hi
  | istore k =>
    cases htr
    exact cp_sti ha hs hi
  | istore_n k =>
    cases htr
    exact cp_sti ha hs hi
  | lstore k =>
    cases htr
    exact cp_stl ha hs hi
  | lstore_n k =>
    cases htr
    exact cp_stl ha hs hi
  | astore k =>
    obtain ⟨hc, hr⟩ := cp_bn htr
    cases hr
    exact cp_sta hc ha hs hi
  | astore_n k =>
    obtain ⟨hc, hr⟩ := cp_bn htr
    cases hr
    exact cp_sta hc ha hs hi
  | iinc k d =>
    cases htr
    exact cp_inc ha hs hi
  | iadd =>
    cases htr
    exact cp_ii ha hs hi
  | isub =>
    cases htr
    exact cp_ii ha hs hi
  | imul =>
    cases htr
    exact cp_ii ha hs hi
  | iand =>
    cases htr
    exact cp_ii ha hs hi
  | ior =>
    cases htr
    exact cp_ii ha hs hi
  | ixor =>
    cases htr
    exact cp_ii ha hs hi
  | ishl =>
    cases htr
    exact cp_ii ha hs hi
  | ishr =>
    cases htr
    exact cp_ii ha hs hi
  | iushr =>
    cases htr
    exact cp_ii ha hs hi
  | idiv =>
    cases htr
    exact cp_iz ha hs hi
  | irem =>
    cases htr
    exact cp_iz ha hs hi
  | ladd =>
    cases htr
    exact cp_ll ha hs hi
  | lsub =>
    cases htr
    exact cp_ll ha hs hi
  | lmul =>
    cases htr
    exact cp_ll ha hs hi
  | land =>
    cases htr
    exact cp_ll ha hs hi
  | lor =>
    cases htr
    exact cp_ll ha hs hi
  | lxor =>
    cases htr
    exact cp_ll ha hs hi
  | ldiv =>
    cases htr
    exact cp_lz ha hs hi
  | lrem =>
    cases htr
    exact cp_lz ha hs hi
  | lcmp =>
    cases htr
    exact cp_lc ha hs hi
  | lshl =>
    cases htr
    exact cp_lw ha hs hi
  | lshr =>
    cases htr
    exact cp_lw ha hs hi
  | lushr =>
    cases htr
    exact cp_lw ha hs hi
  | ineg =>
    cases htr
    exact cp_i1 (fun _ => cp_Vi _) ha hs hi
  | i2b =>
    cases htr
    exact cp_i1 (fun _ => cp_Vi _) ha hs hi
  | i2c =>
    cases htr
    exact cp_i1 (fun _ => cp_Vi _) ha hs hi
  | i2l =>
    cases htr
    exact cp_i1 (fun _ => cp_Vl _) ha hs hi
  | l2i =>
    cases htr
    exact cp_l1 (fun _ => cp_Vi _) ha hs hi
  | lneg =>
    cases htr
    exact cp_l1 (fun _ => cp_Vl _) ha hs hi
  | dup =>
    cases htr
    exact cp_dup ha hs hi
  | pop =>
    cases htr
    exact cp_pop ha hs hi
  | dup2 =>
    obtain ⟨hc, hr⟩ := cp_bn htr
    cases hr
    exact cp_dup2 hc ha hs hi
  | ifCond c x =>
    cases htr
    cases o with
    | nil => exact cp_none
    | cons t o => exact cp_if1 ha hs hi
  | if_icmp c x =>
    cases htr
    cases o with
    | nil => exact cp_none
    | cons t o => exact cp_if2 ha hs hi
  | goto x =>
    cases htr
    cases o with
    | nil => exact cp_none
    | cons t o => exact cp_in ha hs (cp_H_r hi)
  | ifnull x =>
    cases htr
    cases o with
    | nil => exact cp_none
    | cons t o => exact cp_nul ha hs hi
  | ifnonnull x =>
    cases htr
    cases o with
    | nil => exact cp_none
    | cons t o => exact cp_nul ha hs hi
  | tableswitch x lo hh z =>
    cases htr
    exact cp_tsw ha hs hi
  | lookupswitch d z =>
    cases htr
    exact cp_lsw ha hs hi
  | getfield j =>
    match o, htr with
    | [], _ => exact cp_none
    | [_], _ => exact cp_none
    | ci :: k :: _, htr => cases htr; exact cp_get h10 hfg ha hs hi
  | putfield j =>
    match o, htr with
    | [], _ => exact cp_none
    | [_], _ => exact cp_none
    | ci :: k :: _, htr => 
      obtain ⟨hc, hr⟩ := cp_bn htr
      cases hr
      exact cp_put hfp hc ha hs hi
  | getstatic j =>
    cases htr
    cases o with
    | nil => exact cp_none
    | cons t o => exact cp_gts ha hs hi
  | arraylength =>
    cases htr
    exact cp_len ha hs hi
  | iaload =>
    cases htr
    exact cp_ald hko ha hs hi
  | laload =>
    cases htr
    exact cp_ald hko ha hs hi
  | baload =>
    cases htr
    exact cp_ald hko ha hs hi
  | caload =>
    cases htr
    exact cp_ald hko ha hs hi
  | aaload =>
    cases htr
    exact cp_ald hko ha hs hi
  | iastore =>
    obtain ⟨hc, hr⟩ := cp_bn htr
    cases hr
    exact cp_ast hko hc ha hs hi
  | lastore =>
    obtain ⟨hc, hr⟩ := cp_bn htr
    cases hr
    exact cp_ast hko hc ha hs hi
  | bastore =>
    obtain ⟨hc, hr⟩ := cp_bn htr
    cases hr
    exact cp_ast hko hc ha hs hi
  | castore =>
    obtain ⟨hc, hr⟩ := cp_bn htr
    cases hr
    exact cp_ast hko hc ha hs hi
  | aastore =>
    obtain ⟨hc, hr⟩ := cp_bn htr
    cases hr
    exact cp_aas hko hc ha hs hi
  | new j =>
    cases htr
    cases o with
    | nil => exact cp_none
    | cons t o => exact cp_nwo ha hs hi
  | newarray j =>
    cases htr
    cases o with
    | nil => exact cp_none
    | cons t o => exact cp_nwa ha hs hi
  | anewarray j =>
    cases htr
    cases o with
    | nil => exact cp_none
    | cons t o => exact cp_nwa ha hs hi
  | invokestatic j =>
    match o, htr with
    | [], _ => exact cp_none
    | [z], htr => cases htr; exact cp_bif (cp_mm ha hs hi)
    | mi :: k :: _, htr =>
      obtain ⟨h1, h2, h3, h4, hr⟩ := cp_arn htr
      cases hr
      exact cp_inv hc h1 h2 h3 h4 ha hs hi
  | invokespecial j =>
    match o, htr with
    | [], htr => cases htr; exact cp_obj ha hs hi
    | [_], _ => exact cp_none
    | mi :: k :: _, htr =>
      obtain ⟨h1, h2, h3, h4, hr⟩ := cp_arn htr
      cases hr
      show cp_O pr sl ps ko dl [] H (match st[k - 1]? with | some (.inr (.inr (some _))) => bif Nat.ble 1 k then yi_inv pc n al st H nc ns call mi k else none | _ => none)
      split
      · exact cp_bif (cp_inv hc h1 h2 h3 h4 ha hs hi)
      · exact cp_none
  | invokevirtual j =>
    match o, htr with
    | [], _ => exact cp_none
    | [_], _ => exact cp_none
    | [_, _], _ => exact cp_none
    | mi :: k :: ci :: _, htr =>
      obtain ⟨h1, h2, h3, h4, hr⟩ := cp_arn htr
      cases hr
      exact cp_bif (cp_inv hc h1 h2 h3 h4 ha hs hi)
  | ireturn =>
    obtain ⟨hc, hr⟩ := cp_bn htr
    cases hr
    exact cp_ret (k := 0) (ret := ret) hc ha hs hi
  | lreturn =>
    obtain ⟨hc, hr⟩ := cp_bn htr
    cases hr
    exact cp_ret (k := 1) (ret := ret) hc ha hs hi
  | areturn =>
    obtain ⟨hc, hr⟩ := cp_bn htr
    cases hr
    exact cp_ret (k := 2) (ret := ret) hc ha hs hi
  | return_ =>
    exact cp_rtv
  | _ => exact cp_none
/-- the instructions behind which something guarded may lie on the stack -/
def cp_seq (i : Instr) : Bool := match i with
  | .aload_n _ => true
  | .iload _ => true
  | .iload_n _ => true
  | .lload_n _ => true
  | .getfield _ => true
  | .arraylength => true
  | _ => false
theorem cp_pc {g : yi_F} (h : cp_seq i = true) (e : yi_do call [] nL ret pc al st H nc ns i n o = some (.inl g)) : g.1 = pc + n := by
  cases i with
  | aload_n k =>
    have e : yi_lda pc n al st H nc ns k.val = some (.inl g) := e
    unfold yi_lda at e
    split at e
    · rename_i w _
      cases hb : Nat.ble 2 (yi_kd w) with
      | true => rw [hb] at e; cases e; rfl
      | false => rw [hb] at e; cases e
    · cases e
  | iload k =>
    have e : yi_ld pc n al st H nc ns k 0 = some (.inl g) := e
    unfold yi_ld at e
    split at e
    · rename_i w _
      cases hb : Nat.beq (yi_kd w) 0 with
      | true => rw [hb] at e; cases e; rfl
      | false => rw [hb] at e; cases e
    · cases e
  | iload_n k =>
    have e : yi_ld pc n al st H nc ns k.val 0 = some (.inl g) := e
    unfold yi_ld at e
    split at e
    · rename_i w _
      cases hb : Nat.beq (yi_kd w) 0 with
      | true => rw [hb] at e; cases e; rfl
      | false => rw [hb] at e; cases e
    · cases e
  | lload_n k =>
    have e : yi_ld pc n al st H nc ns k.val 1 = some (.inl g) := e
    unfold yi_ld at e
    split at e
    · rename_i w _
      cases hb : Nat.beq (yi_kd w) 1 with
      | true => rw [hb] at e; cases e; rfl
      | false => rw [hb] at e; cases e
    · cases e
  | getfield j =>
    match o, e with
    | [], e => have e : (none : yi_O) = some (.inl g) := e; cases e
    | [_], e => have e : (none : yi_O) = some (.inl g) := e; cases e
    | ci :: k :: _, e =>
      have e : yi_get pc n al st H nc ns ci k = some (.inl g) := e
      unfold yi_get at e
      split at e
      · rename_i p rest _ _
        have key : ∀ (c : Bool) (v : yi_V), (bif c then (some (.inl (pc + n, al, v :: rest, H, nc, ns)) : yi_O) else none) = some (.inl g) → g.1 = pc + n := fun c v e => by
          cases c with
          | true => cases e; rfl
          | false => cases e
        cases h1 : Nat.ble 10 p with
        | true => rw [h1] at e; exact key _ _ e
        | false =>
          rw [h1] at e
          dsimp only [cond_false] at e
          cases h2 : (Nat.ble (p + 1) 4 && Nat.beq ci 100) with
          | false => rw [h2] at e; cases e
          | true =>
            rw [h2] at e
            dsimp only [cond_true] at e
            cases h3 : Nat.beq k 0 with
            | true => rw [h3] at e; cases e; rfl
            | false => rw [h3] at e; exact key _ _ e
      · cases e
  | arraylength =>
    have e : yi_len pc n al st H nc ns [] = some (.inl g) := e
    unfold yi_len at e
    split at e
    · rename_i p rest _
      have key : ∀ (c : Bool) (v : yi_V), (bif c then (some (.inl (pc + n, al, v :: rest, H, nc, ns)) : yi_O) else none) = some (.inl g) → g.1 = pc + n := fun c v e => by
        cases c with
        | true => cases e; rfl
        | false => cases e
      cases h1 : Nat.ble 10 p with
      | true => rw [h1] at e; exact key _ _ e
      | false =>
        rw [h1] at e
        dsimp only [cond_false] at e
        cases h2 : Nat.beq p 8 with
        | true => rw [h2] at e; cases e
        | false => rw [h2] at e; exact key _ _ e
    · cases e
  | _ => cases h
def cp_chk (fg fp : Nat → Nat → Bool) (ff dp dl : Nat → Bool) (sa : Nat → List Bool) (pc : Nat) (e : zi_E) : Bool := match cp_tr fg fp ff dp dl e.1 e.2.2 (sa pc) with
  | some f => !(f.any id) || (cp_seq e.1 && decide (sa (pc + e.2.1) = f))
  | none => false
def cp_tb (fg fp : Nat → Nat → Bool) (ff dp dl : Nat → Bool) (sa : Nat → List Bool) (T : zi_T) : Bool := T.all (fun q => q.2.all (fun x => cp_chk fg fp ff dp dl sa x.1 x.2))
theorem cp_lk {P : Nat → zi_E → Bool} {e : zi_E} : ∀ l : List (Nat × zi_E), zi_lk pc l = some e → l.all (fun x => P x.1 x.2) = true → P pc e = true
  | [], h, _ => by
    have h : (none : Option zi_E) = some e := h
    cases h
  | q :: l, h, ha => by
    rw [List.all_cons, Bool.and_eq_true] at ha
    have h : (bif Nat.beq q.1 pc then some q.2 else zi_lk pc l) = some e := h
    cases hb : Nat.beq q.1 pc with
    | true =>
      rw [hb] at h
      have hb := Nat.eq_of_beq_eq_true hb
      have h : some q.2 = some e := h
      cases h
      rw [← hb]
      exact ha.1
    | false =>
      rw [hb] at h
      exact cp_lk l h ha.2
theorem cp_lk2 {P : Nat → zi_E → Bool} {e : zi_E} : ∀ l : zi_T, zi_lk2 pc l = some e → l.all (fun q => q.2.all (fun x => P x.1 x.2)) = true → P pc e = true
  | [], h, _ => by
    have h : (none : Option zi_E) = some e := h
    cases h
  | q :: l, h, ha => by
    rw [List.all_cons, Bool.and_eq_true] at ha
    have h : (bif Nat.ble q.1 pc then zi_lk2 pc l else zi_lk pc q.2) = some e := h
    cases hb : Nat.ble q.1 pc with
    | true => rw [hb] at h; exact cp_lk2 l h ha.2
    | false => rw [hb] at h; exact cp_lk q.2 h ha.1
/-- what a run leaves -/
def cp_Q (pr : Nat → Bool) (sl ps : Nat → Nat → Bool) (ko : Nat → Nat) (H : yi_H) (r : yi_R) : Prop := (∀ v, r.1 = some v → cp_V pr v) ∧ cp_H pr sl ps ko H r.2.1
theorem cp_H_t {H1 H2 : yi_H} (h : cp_H pr sl ps ko H H1) (h2 : cp_H pr sl ps ko H1 H2) : cp_H pr sl ps ko H H2 := ⟨h2.1, fun p k hp => ⟨(h2.2.1 p k hp).1.trans (h.2.1 p k hp).1, (h2.2.1 p k hp).2.trans (h.2.1 p k hp).2⟩, fun p k hp => (h2.2.2 p k hp).trans (h.2.2 p k hp)⟩
theorem cp_loop (h10 : ∀ q, pr q = true → 10 ≤ q) (hko : ∀ p k, sl p k = true ∨ ps p k = true → ko p < 20) (hfg : ∀ p k, sl p k = true → fg (ko p) k = true) (hfp : ∀ p k, ps p k = true → fp (ko p) k = true) (hc : cp_cl pr sl ps ko ff dp call) {sa : Nat → List Bool} {M : zi_M} (hM : cp_tb fg fp ff dp dl sa M.2.2.2.2.1 = true) {r : yi_R} : ∀ (j : Nat) (f : yi_F), cp_al pr dl f.2.1 → cp_sf pr (sa f.1) f.2.2.1 → cp_I pr sl ps ko f.2.2.2.1 → yi_loop call M j f = some r → cp_Q pr sl ps ko f.2.2.2.1 r
  | 0, f, _, _, _, h => by
    have h : (none : Option yi_R) = some r := h
    cases h
  | j + 1, f, ha, hs, hi, h => by
    have h : (match yi_stp call [] M f with | some (.inl g) => bif yi_up f g then yi_loop call M j g else none | some (.inr v) => some (v, f.2.2.2.1, f.2.2.2.2.1, f.2.2.2.2.2) | none => none) = some r := h
    cases hst : yi_stp call [] M f with
    | none => rw [hst] at h; cases h
    | some q =>
      rw [hst] at h
      unfold yi_stp at hst
      split at hst
      · rename_i e he
        have hk : cp_chk fg fp ff dp dl sa f.1 e = true := cp_lk2 (P := fun a b => cp_chk fg fp ff dp dl sa a b) _ he hM
        unfold cp_chk at hk
        split at hk
        · rename_i f2 htr
          have hO := cp_do (nL := M.2.2.1) (ret := M.2.2.2.1) (pc := f.1) (n := e.2.1) (nc := f.2.2.2.2.1) (ns := f.2.2.2.2.2) h10 hko hfg hfp hc ha hs hi htr
          split at hst
          · rename_i g hd
            cases hst
            have z := hO _ hd
            have hs2 : cp_sf pr (sa g.1) g.2.2.1 := by
              rw [Bool.or_eq_true, Bool.not_eq_true', Bool.and_eq_true] at hk
              rcases hk with hk | hk
              · exact cp_sf_0 _ _ (cp_sf_all _ _ hk z.2.1)
              · rw [cp_pc hk.1 hd, of_decide_eq_true hk.2]
                exact z.2.1
            have h : (bif yi_up f g then yi_loop call M j g else none) = some r := h
            cases hu : yi_up f g with
            | false => rw [hu] at h; cases h
            | true =>
              rw [hu] at h
              have w := cp_loop h10 hko hfg hfp hc hM j g z.1 hs2 z.2.2.1 h
              exact ⟨w.1, cp_H_t z.2.2 w.2⟩
          · rename_i v hd
            cases hb : zi_isr e.1 with
            | false => rw [hb] at hst; cases hst
            | true =>
              rw [hb] at hst
              have hst : (some (.inr v) : yi_O) = some q := hst
              cases hst
              have h : some (v, f.2.2.2.1, f.2.2.2.2.1, f.2.2.2.2.2) = some r := h
              cases h
              exact ⟨hO _ hd, cp_H_r hi⟩
          · cases hst
        · cases hk
      · cases hst
theorem cp_ent {dp' : Bool} : ∀ (vs : List yi_V), cp_vs pr dp' vs → cp_al pr (fun j => dp' && Nat.beq j 0) (yi_ent 0 vs) := by
  have key : ∀ (vs : List yi_V) (i : Nat), (∀ v ∈ vs, cp_V pr v) → ∀ q ∈ yi_ent i vs, cp_V pr q.2 := by
    intro vs
    induction vs with
    | nil => intro i _ q hq; cases hq
    | cons v vs ih =>
      intro i h q hq
      have hq : q ∈ (i, v) :: yi_ent (i + yi_cat v) vs := hq
      rcases List.mem_cons.mp hq with z | z
      · subst z; exact h v (List.mem_cons_self ..)
      · exact ih _ (fun w hw => h w (List.mem_cons_of_mem _ hw)) q z
  intro vs h
  cases vs with
  | nil => intro q hq; cases hq
  | cons v vs =>
    intro q hq hd
    have hq : q ∈ (0, v) :: yi_ent (0 + yi_cat v) vs := hq
    rcases List.mem_cons.mp hq with z | z
    · subst z
      rcases h 0 v rfl with w | w
      · rw [w.1] at hd; cases hd
      · exact w
    · refine key vs _ (fun w hw => ?_) q z
      obtain ⟨j, hj⟩ := List.mem_iff_getElem?.mp hw
      rcases h (j + 1) w hj with y | y
      · exact absurd y.2 (by omega)
      · exact y
theorem cp_all (h10 : ∀ q, pr q = true → 10 ≤ q) (hko : ∀ p k, sl p k = true ∨ ps p k = true → ko p < 20) (hfg : ∀ p k, sl p k = true → fg (ko p) k = true) (hfp : ∀ p k, ps p k = true → fp (ko p) k = true) {Ms : List zi_M} {sa : Nat → Nat → List Bool} (h0 : ∀ mi, sa mi 0 = []) (hM : ∀ mi M, ff mi = true → Ms[mi]? = some M → cp_tb fg fp ff dp (fun j => dp mi && Nat.beq j 0) (sa mi) M.2.2.2.2.1 = true) (n : Nat) : ∀ d, cp_cl pr sl ps ko ff dp (yi_ev Ms n d)
  | 0 => fun mi vs H r _ _ _ e => by
    have e : (none : Option yi_R) = some r := e
    cases e
  | d + 1 => fun mi vs H r hf hv hi e => by
    have e : (match Ms[mi]? with | some M => bif Nat.ble (yi_cats vs) M.2.2.1 then yi_loop (yi_ev Ms n d) M n (0, yi_ent 0 vs, [], H, 0, 0) else none | none => none) = some r := e
    cases hm : Ms[mi]? with
    | none => rw [hm] at e; cases e
    | some M =>
      rw [hm] at e
      dsimp only at e
      cases hb : Nat.ble (yi_cats vs) M.2.2.1 with
      | false => rw [hb] at e; cases e
      | true =>
        rw [hb] at e
        exact cp_loop h10 hko hfg hfp (cp_all h10 hko hfg hfp h0 hM n d) (hM mi M hf hm) n (0, yi_ent 0 vs, [], H, 0, 0) (cp_ent vs hv) cp_sf_n hi e
end CP
