/-! What a run can reach, the second engine: the check of a table, the whole run. -/
/-- which of the stack's values may be guarded ones behind an instruction; none: it is not allowed -/
def cq_tr (fg fp : Nat → Nat → Bool) (fa kw rd : Bool) (ff dr vr : Nat → Bool) (da : Nat → List Bool) (dl : Nat → Bool) (i : Instr) (o : List Nat) (fl : List Bool) : Option (List Bool) := match i with
  | .iconst _ => some (false :: fl)
  | .bipush _ => some (false :: fl)
  | .sipush _ => some (false :: fl)
  | .lconst _ => some (false :: fl)
  | .aconst_null => some (false :: fl)
  | .ldc _ => (match o with | 1 :: r :: _ => if r < 10 then some (false :: fl) else none | _ => some (false :: fl))
  | .ldc_w _ => some (false :: fl)
  | .ldc2_w _ => some (false :: fl)
  | .iload _ => some (false :: fl)
  | .iload_n _ => some (false :: fl)
  | .lload _ => some (false :: fl)
  | .lload_n _ => some (false :: fl)
  | .aload k => some (dl k :: fl)
  | .aload_n k => some (dl k.val :: fl)
  | .istore _ => some fl.tail
  | .istore_n _ => some fl.tail
  | .lstore _ => some fl.tail
  | .lstore_n _ => some fl.tail
  | .astore k => (bif fl.headD false && !(dl k) then none else some fl.tail)
  | .astore_n k => (bif fl.headD false && !(dl k.val) then none else some fl.tail)
  | .iinc _ _ => some fl
  | .iadd => some (false :: fl.tail.tail)
  | .isub => some (false :: fl.tail.tail)
  | .imul => some (false :: fl.tail.tail)
  | .iand => some (false :: fl.tail.tail)
  | .ior => some (false :: fl.tail.tail)
  | .ixor => some (false :: fl.tail.tail)
  | .ishl => some (false :: fl.tail.tail)
  | .ishr => some (false :: fl.tail.tail)
  | .iushr => some (false :: fl.tail.tail)
  | .idiv => some (false :: fl.tail.tail)
  | .irem => some (false :: fl.tail.tail)
  | .ladd => some (false :: fl.tail.tail)
  | .lsub => some (false :: fl.tail.tail)
  | .lmul => some (false :: fl.tail.tail)
  | .land => some (false :: fl.tail.tail)
  | .lor => some (false :: fl.tail.tail)
  | .lxor => some (false :: fl.tail.tail)
  | .ldiv => some (false :: fl.tail.tail)
  | .lrem => some (false :: fl.tail.tail)
  | .lcmp => some (false :: fl.tail.tail)
  | .lshl => some (false :: fl.tail.tail)
  | .lshr => some (false :: fl.tail.tail)
  | .lushr => some (false :: fl.tail.tail)
  | .ineg => some (false :: fl.tail)
  | .i2b => some (false :: fl.tail)
  | .i2c => some (false :: fl.tail)
  | .i2l => some (false :: fl.tail)
  | .l2i => some (false :: fl.tail)
  | .lneg => some (false :: fl.tail)
  | .dup => some (fl.headD false :: fl)
  | .pop => some fl.tail
  | .dup2 => (bif fl.any id then none else some [])
  | .ifCond _ _ => some fl.tail
  | .if_icmp _ _ => some fl.tail.tail
  | .goto _ => some fl
  | .ifnull _ => some fl.tail
  | .ifnonnull _ => some fl.tail
  | .tableswitch _ _ _ _ => some fl.tail
  | .lookupswitch _ _ => some fl.tail
  | .getfield _ => (match o with | ci :: k :: _ => some ((Nat.ble 2 (yi_tk (zi_ty ci k)) && (fl.headD false || fg ci k)) :: fl.tail) | _ => some [])
  | .putfield _ => (match o with | ci :: k :: _ => (bif (fl.headD false && !(fg ci k)) || (fl.tail.headD false && kw) || fp ci k then none else some fl.tail.tail) | _ => some [])
  | .getstatic _ => some (false :: fl)
  | .arraylength => some (false :: fl.tail)
  | .iaload => some (false :: fl.tail.tail)
  | .laload => some (false :: fl.tail.tail)
  | .baload => some (false :: fl.tail.tail)
  | .caload => some (false :: fl.tail.tail)
  | .aaload => some ((fl.tail.headD false || fa) :: fl.tail.tail)
  | .iastore => (bif fl.tail.tail.headD false && kw then none else some fl.tail.tail.tail)
  | .lastore => (bif fl.tail.tail.headD false && kw then none else some fl.tail.tail.tail)
  | .bastore => (bif fl.tail.tail.headD false && kw then none else some fl.tail.tail.tail)
  | .castore => (bif fl.tail.tail.headD false && kw then none else some fl.tail.tail.tail)
  | .aastore => (bif (fl.tail.tail.headD false && kw) || (fl.headD false && !fa) then none else some fl.tail.tail.tail)
  | .new _ => some (false :: fl)
  | .newarray _ => some (false :: fl.tail)
  | .anewarray _ => some (false :: fl.tail)
  | .invokestatic _ => (match o with | [_] => some (false :: fl.tail.tail) | mi :: k :: _ => (bif ff mi && cq_ar (da mi) fl k then some (bif vr mi then dr mi :: fl.drop k else fl.drop k) else none) | _ => some [])
  | .invokespecial _ => (match o with | [] => some fl.tail | mi :: k :: _ => (bif ff mi && cq_ar (da mi) fl k then some (bif vr mi then dr mi :: fl.drop k else fl.drop k) else none) | _ => some [])
  | .invokevirtual _ => (match o with | mi :: k :: _ :: _ => (bif ff mi && cq_ar (da mi) fl k then some (bif vr mi then dr mi :: fl.drop k else fl.drop k) else none) | _ => some [])
  | .ireturn => (bif fl.headD false && !rd then none else some [])
  | .lreturn => (bif fl.headD false && !rd then none else some [])
  | .areturn => (bif fl.headD false && !rd then none else some [])
  | .return_ => some []
  | _ => some []
def cq_np (i : Instr) (o : List Nat) (pc n m : Nat) : Prop := match i with
  | .goto _ => m ∈ o
  | .ifCond _ _ => m = pc + n ∨ m ∈ o
  | .if_icmp _ _ => m = pc + n ∨ m ∈ o
  | .ifnull _ => m = pc + n ∨ m ∈ o
  | .ifnonnull _ => m = pc + n ∨ m ∈ o
  | .tableswitch _ _ _ _ => True
  | .lookupswitch _ _ => True
  | _ => m = pc + n
def cq_ok (i : Instr) (o : List Nat) (t : Nat) (P : Nat → Bool) : Bool := match i with
  | .goto _ => o.all P
  | .ifCond _ _ => P t && o.all P
  | .if_icmp _ _ => P t && o.all P
  | .ifnull _ => P t && o.all P
  | .ifnonnull _ => P t && o.all P
  | .tableswitch _ _ _ _ => false
  | .lookupswitch _ _ => false
  | _ => P t
theorem cq_np_ok {i : Instr} {o : List Nat} {pc n m : Nat} {P : Nat → Bool} (h : cq_ok i o (pc + n) P = true) (hm : cq_np i o pc n m) : P m = true := by
  have two : ∀ {c : Bool}, (c && o.all P) = true → (c = true → P (pc + n) = true) → m = pc + n ∨ m ∈ o → P m = true := fun h hc hm => by
    rw [Bool.and_eq_true] at h
    rcases hm with e | e
    · rw [e]; exact hc h.1
    · exact List.all_eq_true.mp h.2 m e
  cases i with
  | goto x => exact List.all_eq_true.mp h m hm
  | ifCond c x => exact two h id hm
  | if_icmp c x => exact two h id hm
  | ifnull x => exact two h id hm
  | ifnonnull x => exact two h id hm
  | tableswitch a b c d => cases h
  | lookupswitch a b => cases h
  | _ =>
    have hm : m = pc + n := hm
    rw [hm]
    exact h
section CQ
variable {pr : Nat → Bool} {ps fg fp : Nat → Nat → Bool} {fa kw rd rv : Bool} {ff dr vr dl : Nat → Bool} {da : Nat → List Bool} {fl fl' : List Bool} {pc n nL : Nat} {al : List (Nat × yi_V)} {st : List yi_V} {H : yi_H} {nc ns : Nat} {call : yi_K} {ret : Option FieldType} {i : Instr} {o : List Nat}
theorem cq_arn {c : Bool} {d : List Bool} {k : Nat} {f2 : List Bool} (h : (bif c && cq_ar d fl k then some f2 else none) = some fl') : c = true ∧ cq_ar d fl k = true ∧ f2 = fl' := by
  cases hb : (c && cq_ar d fl k) with
  | false => rw [hb] at h; cases h
  | true =>
    rw [hb] at h
    rw [Bool.and_eq_true] at hb
    exact ⟨hb.1, hb.2, Option.some.inj h⟩
theorem cq_do (h10 : ∀ q, pr q = true → 10 ≤ q) (hfg : ∀ c k, fg c k = true → c < 20 ∨ 26 < c) (hfp : ∀ c k, fp c k = true → c < 20) (hc : cq_cl pr ps fg fp fa kw ff dr vr da call) (hrv : ret.isSome = rv) (ha : cq_al pr H.2.2.2.2.2 dl al) (hs : cq_sf pr H.2.2.2.2.2 fl st) (hi : cq_I pr ps fg fp fa H) (htr : cq_tr fg fp fa kw rd ff dr vr da dl i o fl = some fl') : cq_O pr ps fg fp fa kw dl (cq_np i o pc n) rd rv fl' H (yi_do call [] nL ret pc al st H nc ns i n o) := by
  cases i with
  | iconst k =>
    cases htr
    exact cq_bif (cq_ps rfl (cq_Vi _) ha hs hi)
  | bipush k =>
    cases htr
    exact cq_bif (cq_ps rfl (cq_Vi _) ha hs hi)
  | sipush k =>
    cases htr
    exact cq_bif (cq_ps rfl (cq_Vi _) ha hs hi)
  | lconst k =>
    cases htr
    exact cq_ps rfl (cq_Vl _) ha hs hi
  | aconst_null =>
    cases htr
    exact cq_ps rfl cq_Vn ha hs hi
  | ldc j =>
    match o, htr with
    | [], _ => exact cq_none
    | [0], _ => exact cq_none
    | [1], _ => exact cq_none
    | [_ + 2], _ => exact cq_none
    | 0 :: v :: _, htr => cases htr; exact cq_ps rfl (cq_Vi _) ha hs hi
    | 1 :: r :: _, htr =>
      have htr : (if r < 10 then some (false :: fl) else none) = some fl' := htr
      split at htr
      · rename_i hr
        cases htr
        refine cq_ps rfl (fun q e => ?_) ha hs hi
        have e : some r = some q := Sum.inr.inj (Sum.inr.inj e)
        cases e
        refine ⟨Nat.lt_of_lt_of_le hr hi.2.2.2, fun _ => ?_⟩
        cases hp : pr r with
        | false => rfl
        | true => have := h10 r hp; omega
      · cases htr
    | (_ + 2) :: _ :: _, _ => exact cq_none
  | ldc_w j =>
    cases htr
    match o with
    | [] => exact cq_none
    | [0] => exact cq_none
    | [_ + 1] => exact cq_none
    | 0 :: v :: _ => exact cq_ps rfl (cq_Vi _) ha hs hi
    | (_ + 1) :: _ :: _ => exact cq_none
  | ldc2_w j =>
    cases htr
    match o with
    | [] => exact cq_none
    | v :: _ => exact cq_ps rfl (cq_Vl _) ha hs hi
  | iload k =>
    cases htr
    exact cq_ld (by omega) rfl ha hs hi
  | iload_n k =>
    cases htr
    exact cq_ld (by omega) rfl ha hs hi
  | lload k =>
    cases htr
    exact cq_ld (by omega) rfl ha hs hi
  | lload_n k =>
    cases htr
    exact cq_ld (by omega) rfl ha hs hi
  | aload k =>
    cases htr
    exact cq_lda rfl ha hs hi
  | aload_n k =>
    cases htr
    exact cq_lda rfl ha hs hi
  | istore k =>
    cases htr
    exact cq_sti rfl ha hs hi
  | istore_n k =>
    cases htr
    exact cq_sti rfl ha hs hi
  | lstore k =>
    cases htr
    exact cq_stl rfl ha hs hi
  | lstore_n k =>
    cases htr
    exact cq_stl rfl ha hs hi
  | astore k =>
    obtain ⟨hc, hr⟩ := cp_bn htr
    cases hr
    exact cq_sta hc rfl ha hs hi
  | astore_n k =>
    obtain ⟨hc, hr⟩ := cp_bn htr
    cases hr
    exact cq_sta hc rfl ha hs hi
  | iinc k d =>
    cases htr
    exact cq_inc rfl ha hs hi
  | iadd =>
    cases htr
    exact cq_ii rfl ha hs hi
  | isub =>
    cases htr
    exact cq_ii rfl ha hs hi
  | imul =>
    cases htr
    exact cq_ii rfl ha hs hi
  | iand =>
    cases htr
    exact cq_ii rfl ha hs hi
  | ior =>
    cases htr
    exact cq_ii rfl ha hs hi
  | ixor =>
    cases htr
    exact cq_ii rfl ha hs hi
  | ishl =>
    cases htr
    exact cq_ii rfl ha hs hi
  | ishr =>
    cases htr
    exact cq_ii rfl ha hs hi
  | iushr =>
    cases htr
    exact cq_ii rfl ha hs hi
  | idiv =>
    cases htr
    exact cq_iz rfl ha hs hi
  | irem =>
    cases htr
    exact cq_iz rfl ha hs hi
  | ladd =>
    cases htr
    exact cq_ll rfl ha hs hi
  | lsub =>
    cases htr
    exact cq_ll rfl ha hs hi
  | lmul =>
    cases htr
    exact cq_ll rfl ha hs hi
  | land =>
    cases htr
    exact cq_ll rfl ha hs hi
  | lor =>
    cases htr
    exact cq_ll rfl ha hs hi
  | lxor =>
    cases htr
    exact cq_ll rfl ha hs hi
  | ldiv =>
    cases htr
    exact cq_lz rfl ha hs hi
  | lrem =>
    cases htr
    exact cq_lz rfl ha hs hi
  | lcmp =>
    cases htr
    exact cq_lc rfl ha hs hi
  | lshl =>
    cases htr
    exact cq_lw rfl ha hs hi
  | lshr =>
    cases htr
    exact cq_lw rfl ha hs hi
  | lushr =>
    cases htr
    exact cq_lw rfl ha hs hi
  | ineg =>
    cases htr
    exact cq_i1 (fun _ => cq_Vi _) rfl ha hs hi
  | i2b =>
    cases htr
    exact cq_i1 (fun _ => cq_Vi _) rfl ha hs hi
  | i2c =>
    cases htr
    exact cq_i1 (fun _ => cq_Vi _) rfl ha hs hi
  | i2l =>
    cases htr
    exact cq_i1 (fun _ => cq_Vl _) rfl ha hs hi
  | l2i =>
    cases htr
    exact cq_l1 (fun _ => cq_Vi _) rfl ha hs hi
  | lneg =>
    cases htr
    exact cq_l1 (fun _ => cq_Vl _) rfl ha hs hi
  | dup =>
    cases htr
    exact cq_dup rfl ha hs hi
  | pop =>
    cases htr
    exact cq_pop rfl ha hs hi
  | dup2 =>
    obtain ⟨hc, hr⟩ := cp_bn htr
    cases hr
    exact cq_dup2 hc rfl ha hs hi
  | ifCond c x =>
    cases htr
    cases o with
    | nil => exact cq_none
    | cons t o => exact cq_if1 (Or.inl rfl) (Or.inr (List.mem_cons_self ..)) ha hs hi
  | if_icmp c x =>
    cases htr
    cases o with
    | nil => exact cq_none
    | cons t o => exact cq_if2 (Or.inl rfl) (Or.inr (List.mem_cons_self ..)) ha hs hi
  | goto x =>
    cases htr
    cases o with
    | nil => exact cq_none
    | cons t o => exact cq_in (show t ∈ t :: o from List.mem_cons_self ..) ha hs (cq_H_r hi)
  | ifnull x =>
    cases htr
    cases o with
    | nil => exact cq_none
    | cons t o => exact cq_nul (Or.inl rfl) (Or.inr (List.mem_cons_self ..)) ha hs hi
  | ifnonnull x =>
    cases htr
    cases o with
    | nil => exact cq_none
    | cons t o => exact cq_nul (Or.inl rfl) (Or.inr (List.mem_cons_self ..)) ha hs hi
  | tableswitch x lo hh z =>
    cases htr
    exact cq_tsw (fun _ => trivial) ha hs hi
  | lookupswitch d z =>
    cases htr
    exact cq_lsw (fun _ => trivial) ha hs hi
  | getfield j =>
    match o, htr with
    | [], _ => exact cq_none
    | [_], _ => exact cq_none
    | ci :: k :: _, htr => cases htr; exact cq_get h10 rfl ha hs hi
  | putfield j =>
    match o, htr with
    | [], _ => exact cq_none
    | [_], _ => exact cq_none
    | ci :: k :: _, htr => 
      obtain ⟨hc, hr⟩ := cp_bn htr
      cases hr
      exact cq_put hc rfl ha hs hi
  | getstatic j =>
    cases htr
    cases o with
    | nil => exact cq_none
    | cons t o => exact cq_gts rfl ha hs hi
  | arraylength =>
    cases htr
    exact cq_len rfl ha hs hi
  | iaload =>
    cases htr
    exact cq_ald (Or.inl (Or.inl rfl)) rfl hfg ha hs hi
  | laload =>
    cases htr
    exact cq_ald (Or.inl (Or.inr rfl)) rfl hfg ha hs hi
  | baload =>
    cases htr
    exact cq_ald (Or.inl (Or.inl rfl)) rfl hfg ha hs hi
  | caload =>
    cases htr
    exact cq_ald (Or.inl (Or.inl rfl)) rfl hfg ha hs hi
  | aaload =>
    cases htr
    exact cq_ald (Or.inr rfl) rfl hfg ha hs hi
  | iastore =>
    obtain ⟨hc, hr⟩ := cp_bn htr
    cases hr
    exact cq_ast hfp hc rfl ha hs hi
  | lastore =>
    obtain ⟨hc, hr⟩ := cp_bn htr
    cases hr
    exact cq_ast hfp hc rfl ha hs hi
  | bastore =>
    obtain ⟨hc, hr⟩ := cp_bn htr
    cases hr
    exact cq_ast hfp hc rfl ha hs hi
  | castore =>
    obtain ⟨hc, hr⟩ := cp_bn htr
    cases hr
    exact cq_ast hfp hc rfl ha hs hi
  | aastore =>
    obtain ⟨hc, hr⟩ := cp_bn htr
    cases hr
    exact cq_aas hfp hc rfl ha hs hi
  | new j =>
    cases htr
    cases o with
    | nil => exact cq_none
    | cons t o => exact cq_nwo rfl ha hs hi
  | newarray j =>
    cases htr
    cases o with
    | nil => exact cq_none
    | cons t o => exact cq_nwa rfl ha hs hi
  | anewarray j =>
    cases htr
    cases o with
    | nil => exact cq_none
    | cons t o => exact cq_nwa rfl ha hs hi
  | invokestatic j =>
    match o, htr with
    | [], _ => exact cq_none
    | [z], htr => cases htr; exact cq_bif (cq_mm rfl ha hs hi)
    | mi :: k :: _, htr =>
      obtain ⟨h1, h2, hr⟩ := cq_arn htr
      cases hr
      exact cq_inv hc h1 h2 rfl ha hs hi
  | invokespecial j =>
    match o, htr with
    | [], htr => cases htr; exact cq_obj rfl ha hs hi
    | [_], _ => exact cq_none
    | mi :: k :: oo, htr =>
      obtain ⟨h1, h2, hr⟩ := cq_arn htr
      cases hr
      show cq_O pr ps fg fp fa kw dl (fun m => m = pc + n) rd rv _ H (match st[k - 1]? with | some (.inr (.inr (some _))) => bif Nat.ble 1 k then yi_inv pc n al st H nc ns call mi k else none | _ => none)
      split
      · exact cq_bif (cq_inv hc h1 h2 rfl ha hs hi)
      · exact cq_none
  | invokevirtual j =>
    match o, htr with
    | [], _ => exact cq_none
    | [_], _ => exact cq_none
    | [_, _], _ => exact cq_none
    | mi :: k :: ci :: _, htr =>
      obtain ⟨h1, h2, hr⟩ := cq_arn htr
      cases hr
      exact cq_bif (cq_inv hc h1 h2 rfl ha hs hi)
  | ireturn =>
    obtain ⟨hc, hr⟩ := cp_bn htr
    cases hr
    exact cq_ret (k := 0) (ret := ret) hc hrv ha hs hi
  | lreturn =>
    obtain ⟨hc, hr⟩ := cp_bn htr
    cases hr
    exact cq_ret (k := 1) (ret := ret) hc hrv ha hs hi
  | areturn =>
    obtain ⟨hc, hr⟩ := cp_bn htr
    cases hr
    exact cq_ret (k := 2) (ret := ret) hc hrv ha hs hi
  | return_ =>
    exact cq_rtv hrv
  | _ => exact cq_none
def cq_le : List Bool → List Bool → Bool
  | [], _ => true
  | a :: l, [] => !a && cq_le l []
  | a :: l, b :: m => (!a || b) && cq_le l m
theorem cq_le_sf {N : Nat} : ∀ (f g : List Bool) (st : List yi_V), cq_le f g = true → cq_sf pr N f st → cq_sf pr N g st
  | [], g, st, _, h => cq_sf_0 g st h
  | a :: l, [], [], _, _ => trivial
  | a :: l, b :: m, [], _, _ => trivial
  | a :: l, [], v :: st, e, h => by
    have e : (!a && cq_le l []) = true := e
    rw [Bool.and_eq_true, Bool.not_eq_true'] at e
    exact ⟨cq_V_w (by rw [e.1]; rfl) h.1, cq_le_sf l [] st e.2 h.2⟩
  | a :: l, b :: m, v :: st, e, h => by
    have e : ((!a || b) && cq_le l m) = true := e
    rw [Bool.and_eq_true, Bool.or_eq_true, Bool.not_eq_true'] at e
    refine ⟨cq_V_w ?_ h.1, cq_le_sf l m st e.2 h.2⟩
    rcases e.1 with z | z
    · rw [z]; rfl
    · rw [z]; exact Bool.and_false _
def cq_chk (fg fp : Nat → Nat → Bool) (fa kw rd : Bool) (ff dr vr : Nat → Bool) (da : Nat → List Bool) (dl : Nat → Bool) (sa : Nat → List Bool) (pc : Nat) (e : zi_E) : Bool := match cq_tr fg fp fa kw rd ff dr vr da dl e.1 e.2.2 (sa pc) with
  | some f => !(f.any id) || cq_ok e.1 e.2.2 (pc + e.2.1) (fun m => cq_le f (sa m))
  | none => false
def cq_tb (fg fp : Nat → Nat → Bool) (fa kw rd : Bool) (ff dr vr : Nat → Bool) (da : Nat → List Bool) (dl : Nat → Bool) (sa : Nat → List Bool) (T : zi_T) : Bool := T.all (fun q => q.2.all (fun x => cq_chk fg fp fa kw rd ff dr vr da dl sa x.1 x.2))
theorem cq_H_t {H1 H2 : yi_H} (h : cq_H pr ps fg fp fa kw H H1) (h2 : cq_H pr ps fg fp fa kw H1 H2) : cq_H pr ps fg fp fa kw H H2 := ⟨h2.1, fun p k hp => ⟨(h2.2.1 p k hp).1.trans (h.2.1 p k hp).1, (h2.2.1 p k hp).2.1.trans (h.2.1 p k hp).2.1, (h2.2.1 p k hp).2.2.trans (h.2.1 p k hp).2.2⟩, fun p hp => ⟨(h2.2.2.1 p (Nat.lt_of_lt_of_le hp h.2.2.2)).1.trans (h.2.2.1 p hp).1, (h2.2.2.1 p (Nat.lt_of_lt_of_le hp h.2.2.2)).2.trans (h.2.2.1 p hp).2⟩, Nat.le_trans h.2.2.2 h2.2.2.2⟩
theorem cq_loop (h10 : ∀ q, pr q = true → 10 ≤ q) (hfg : ∀ c k, fg c k = true → c < 20 ∨ 26 < c) (hfp : ∀ c k, fp c k = true → c < 20) (hc : cq_cl pr ps fg fp fa kw ff dr vr da call) {sa : Nat → List Bool} {M : zi_M} (hM : cq_tb fg fp fa kw rd ff dr vr da dl sa M.2.2.2.2.1 = true) (hrv : M.2.2.2.1.isSome = rv) {r : yi_R} : ∀ (j : Nat) (f : yi_F), cq_al pr f.2.2.2.1.2.2.2.2.2 dl f.2.1 → cq_sf pr f.2.2.2.1.2.2.2.2.2 (sa f.1) f.2.2.1 → cq_I pr ps fg fp fa f.2.2.2.1 → yi_loop call M j f = some r → cq_R pr ps fg fp fa kw rd rv f.2.2.2.1 r
  | 0, f, _, _, _, h => by
    have h : (none : Option yi_R) = some r := h
    cases h
  | j + 1, f, ha, hs, hi, h => by
    have h : (match yi_stp call [] M f with | some (.inl g) => bif yi_up f g then yi_loop call M j g else none | some (.inr v) => some (v, f.2.2.2.1, f.2.2.2.2.1, f.2.2.2.2.2) | none => none) = some r := h
    cases hst : yi_stp call [] M f with
    | none => rw [hst] at h; cases h
    | some q =>
      rw [hst] at h
      unfold yi_stp at hst
      split at hst
      · rename_i e he
        have hk : cq_chk fg fp fa kw rd ff dr vr da dl sa f.1 e = true := cp_lk2 (P := fun a b => cq_chk fg fp fa kw rd ff dr vr da dl sa a b) _ he hM
        unfold cq_chk at hk
        split at hk
        · rename_i f2 htr
          have hO := cq_do (nL := M.2.2.1) (pc := f.1) (n := e.2.1) (nc := f.2.2.2.2.1) (ns := f.2.2.2.2.2) h10 hfg hfp hc hrv ha hs hi htr
          split at hst
          · rename_i g hd
            cases hst
            have z := hO _ hd
            have hs2 : cq_sf pr g.2.2.2.1.2.2.2.2.2 (sa g.1) g.2.2.1 := by
              rw [Bool.or_eq_true, Bool.not_eq_true'] at hk
              rcases hk with hk | hk
              · exact cq_sf_0 _ _ (cq_sf_all _ _ hk z.2.2.1)
              · exact cq_le_sf f2 (sa g.1) _ (cq_np_ok hk z.1) z.2.2.1
            have h : (bif yi_up f g then yi_loop call M j g else none) = some r := h
            cases hu : yi_up f g with
            | false => rw [hu] at h; cases h
            | true =>
              rw [hu] at h
              have w := cq_loop h10 hfg hfp hc hM hrv j g z.2.1 hs2 z.2.2.2.1 h
              exact ⟨w.1, w.2.1, cq_H_t z.2.2.2 w.2.2⟩
          · rename_i v hd
            cases hb : zi_isr e.1 with
            | false => rw [hb] at hst; cases hst
            | true =>
              rw [hb] at hst
              have hst : (some (.inr v) : yi_O) = some q := hst
              cases hst
              have h : some (v, f.2.2.2.1, f.2.2.2.2.1, f.2.2.2.2.2) = some r := h
              cases h
              have z := hO _ hd
              exact ⟨z.1, z.2, cq_H_r hi⟩
          · cases hst
        · cases hk
      · cases hst
/-- the locals that a call's guarded arguments may lie in -/
def cq_dk (dl : Nat → Bool) : Nat → List Bool → Bool
  | _, [] => true
  | j, b :: l => (!b || (List.range (j + 1)).all (fun i => dl (j + i))) && cq_dk dl (j + 1) l
theorem cq_ent {N : Nat} : ∀ (vs : List yi_V) (da : List Bool) (i j : Nat), j ≤ i → i ≤ j + j → cq_dk dl j da = true → (∀ k v, vs[k]? = some v → cq_V pr N (da.getD k false) v) → cq_al pr N dl (yi_ent i vs)
  | [], _, _, _, _, _, _, _ => fun q hq => by cases hq
  | v :: vs, da, i, j, h1, h2, hd, h => by
    have hc : yi_cat v ≤ 2 ∧ 1 ≤ yi_cat v := by
      unfold yi_cat
      split <;> omega
    intro q hq
    have hq : q ∈ (i, v) :: yi_ent (i + yi_cat v) vs := hq
    rcases List.mem_cons.mp hq with z | z
    · subst z
      refine cq_V_w ?_ (h 0 v rfl)
      cases da with
      | nil => rfl
      | cons b l =>
        have hd : ((!b || (List.range (j + 1)).all (fun i => dl (j + i))) && cq_dk dl (j + 1) l) = true := hd
        rw [Bool.and_eq_true, Bool.or_eq_true, Bool.not_eq_true'] at hd
        show (b && !dl i) = false
        rcases hd.1 with x | x
        · rw [x]; rfl
        · have := List.all_eq_true.mp x (i - j) (List.mem_range.mpr (by omega))
          rw [Nat.add_sub_cancel' h1] at this
          rw [this]
          exact Bool.and_false _
    · refine cq_ent vs da.tail (i + yi_cat v) (j + 1) (by omega) (by omega) ?_ (fun k w hw => ?_) q z
      · cases da with
        | nil => rfl
        | cons b l =>
          have hd : ((!b || (List.range (j + 1)).all (fun i => dl (j + i))) && cq_dk dl (j + 1) l) = true := hd
          rw [Bool.and_eq_true] at hd
          exact hd.2
      · have := h (k + 1) w hw
        cases da with
        | nil => exact this
        | cons b l => exact this
theorem cq_all (h10 : ∀ q, pr q = true → 10 ≤ q) (hfg : ∀ c k, fg c k = true → c < 20 ∨ 26 < c) (hfp : ∀ c k, fp c k = true → c < 20) {Ms : List zi_M} {sa : Nat → Nat → List Bool} {dl : Nat → Nat → Bool} (h0 : ∀ mi, sa mi 0 = []) (hM : ∀ mi M, ff mi = true → Ms[mi]? = some M → M.2.2.2.1.isSome = vr mi ∧ cq_dk (dl mi) 0 (da mi) = true ∧ cq_tb fg fp fa kw (dr mi) ff dr vr da (dl mi) (sa mi) M.2.2.2.2.1 = true) (n : Nat) : ∀ d, cq_cl pr ps fg fp fa kw ff dr vr da (yi_ev Ms n d)
  | 0 => fun mi vs H r _ _ _ e => by
    have e : (none : Option yi_R) = some r := e
    cases e
  | d + 1 => fun mi vs H r hf hv hi e => by
    have e : (match Ms[mi]? with | some M => bif Nat.ble (yi_cats vs) M.2.2.1 then yi_loop (yi_ev Ms n d) M n (0, yi_ent 0 vs, [], H, 0, 0) else none | none => none) = some r := e
    cases hm : Ms[mi]? with
    | none => rw [hm] at e; cases e
    | some M =>
      rw [hm] at e
      dsimp only at e
      cases hb : Nat.ble (yi_cats vs) M.2.2.1 with
      | false => rw [hb] at e; cases e
      | true =>
        rw [hb] at e
        have z := hM mi M hf hm
        have hs0 : cq_sf pr H.2.2.2.2.2 (sa mi 0) [] := by rw [h0 mi]; trivial
        exact cq_loop h10 hfg hfp (cq_all h10 hfg hfp h0 hM n d) z.2.2 z.1 n (0, yi_ent 0 vs, [], H, 0, 0) (cq_ent vs (da mi) 0 0 (Nat.le_refl _) (Nat.le_refl _) z.2.1 hv) hs0 hi e
end CQ
