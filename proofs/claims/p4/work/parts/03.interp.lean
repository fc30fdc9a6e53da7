/-! The classes' fields, the String constants, and the interpreter itself. -/
def zi_cl : List vw_C := zi_Fs.map (fun q => (q.1, (fun k => (q.2.getD k (("", "", "", false), .int)).1), q.2.length))
def zi_ty (ci k : Nat) : FieldType := ((zi_Fs.getD ci ("", [])).2.getD k (("", "", "", false), .int)).2
def zi_dfv (ty : FieldType) : zi_V := match ty with
  | .long => .inl (.long 0)
  | .object _ => .inl .null
  | .array _ => .inl .null
  | _ => .inl (.int 0)
def zi_new (ci : Nat) : List zi_V := (zi_Fs.getD ci ("", [])).2.map (fun q => zi_dfv q.2)
abbrev zi_O : Type := Option (zi_F ⊕ Option zi_V)
def zi_ps (pc n : Nat) (al : List (Nat × zi_V)) (st : List zi_V) (A : List zi_C) (nc ns : Nat) (v : zi_V) : zi_O := some (.inl (pc + n, al, v :: st, A, nc, ns))
noncomputable def zi_ld (pc n : Nat) (al : List (Nat × zi_V)) (st : List zi_V) (A : List zi_C) (nc ns : Nat) (i k : Nat) : zi_O := match zi_loc al i with
  | some v => bif Nat.beq (zi_kd v) k then some (.inl (pc + n, al, v :: st, A, nc, ns)) else none
  | none => none
noncomputable def zi_lda (pc n : Nat) (al : List (Nat × zi_V)) (st : List zi_V) (A : List zi_C) (nc ns : Nat) (i : Nat) : zi_O := match zi_loc al i with
  | some v => bif Nat.ble 2 (zi_kd v) then some (.inl (pc + n, al, v :: st, A, nc, ns)) else none
  | none => none
noncomputable def zi_sti (pc n nL : Nat) (al : List (Nat × zi_V)) (st : List zi_V) (A : List zi_C) (nc ns : Nat) (i : Nat) : zi_O := match st with
  | v :: r => bif Nat.beq (zi_kd v) 0 && Nat.ble (i + 1) nL then some (.inl (pc + n, (i, v) :: zi_del1 i al, r, A, nc, ns)) else none
  | [] => none
noncomputable def zi_sta (pc n nL : Nat) (al : List (Nat × zi_V)) (st : List zi_V) (A : List zi_C) (nc ns : Nat) (i : Nat) : zi_O := match st with
  | v :: r => bif Nat.ble 2 (zi_kd v) && Nat.ble (i + 1) nL then some (.inl (pc + n, (i, v) :: zi_del1 i al, r, A, nc, ns)) else none
  | [] => none
noncomputable def zi_stl (pc n nL : Nat) (al : List (Nat × zi_V)) (st : List zi_V) (A : List zi_C) (nc ns : Nat) (i : Nat) : zi_O := match st with
  | v :: r => bif Nat.beq (zi_kd v) 1 && Nat.ble (i + 2) nL then some (.inl (pc + n, (i, v) :: zi_del2 i al, r, A, nc, ns)) else none
  | [] => none
noncomputable def zi_inc (pc n nL : Nat) (al : List (Nat × zi_V)) (st : List zi_V) (A : List zi_C) (nc ns : Nat) (i : Nat) (k : Int) : zi_O := match zi_loc al i with
  | some (.inl (.int x)) => bif Nat.ble (i + 1) nL then some (.inl (pc + n, (i, .inl (.int (x + Int32.ofInt k))) :: zi_del1 i al, st, A, nc, ns)) else none
  | _ => none
def zi_ii (op : Int32 → Int32 → Int32) (pc n : Nat) (al : List (Nat × zi_V)) (st : List zi_V) (A : List zi_C) (nc ns : Nat) : zi_O := match st with
  | .inl (.int y) :: .inl (.int x) :: r => some (.inl (pc + n, al, .inl (.int (op x y)) :: r, A, nc, ns))
  | _ => none
def zi_iz (op : Int32 → Int32 → Int32) (pc n : Nat) (al : List (Nat × zi_V)) (st : List zi_V) (A : List zi_C) (nc ns : Nat) : zi_O := match st with
  | .inl (.int y) :: .inl (.int x) :: r => bif decide (y = 0) then none else some (.inl (pc + n, al, .inl (.int (op x y)) :: r, A, nc, ns))
  | _ => none
def zi_ll (op : Int64 → Int64 → Int64) (pc n : Nat) (al : List (Nat × zi_V)) (st : List zi_V) (A : List zi_C) (nc ns : Nat) : zi_O := match st with
  | .inl (.long y) :: .inl (.long x) :: r => some (.inl (pc + n, al, .inl (.long (op x y)) :: r, A, nc, ns))
  | _ => none
def zi_lz (op : Int64 → Int64 → Int64) (pc n : Nat) (al : List (Nat × zi_V)) (st : List zi_V) (A : List zi_C) (nc ns : Nat) : zi_O := match st with
  | .inl (.long y) :: .inl (.long x) :: r => bif decide (y = 0) then none else some (.inl (pc + n, al, .inl (.long (op x y)) :: r, A, nc, ns))
  | _ => none
def zi_lsw (d : Int) (ps : List (Int × Int)) (pc : Nat) (al : List (Nat × zi_V)) (st : List zi_V) (A : List zi_C) (nc ns : Nat) : zi_O := match st with
  | .inl (.int x) :: r => bif decide (0 ≤ (pc : Int) + Op.lookupswitch.offset ps d x.toInt) then some (.inl (((pc : Int) + Op.lookupswitch.offset ps d x.toInt).toNat, al, r, A, nc, ns)) else none
  | _ => none
def zi_lc (pc n : Nat) (al : List (Nat × zi_V)) (st : List zi_V) (A : List zi_C) (nc ns : Nat) : zi_O := match st with
  | .inl (.long y) :: .inl (.long x) :: r => some (.inl (pc + n, al, .inl (.int (lg_cmp x y)) :: r, A, nc, ns))
  | _ => none
def zi_lw (op : Int64 → Int32 → Int64) (pc n : Nat) (al : List (Nat × zi_V)) (st : List zi_V) (A : List zi_C) (nc ns : Nat) : zi_O := match st with
  | .inl (.int y) :: .inl (.long x) :: r => some (.inl (pc + n, al, .inl (.long (op x y)) :: r, A, nc, ns))
  | _ => none
def zi_i1 (op : Int32 → Value) (pc n : Nat) (al : List (Nat × zi_V)) (st : List zi_V) (A : List zi_C) (nc ns : Nat) : zi_O := match st with
  | .inl (.int x) :: r => some (.inl (pc + n, al, .inl (op x) :: r, A, nc, ns))
  | _ => none
def zi_l1 (op : Int64 → Value) (pc n : Nat) (al : List (Nat × zi_V)) (st : List zi_V) (A : List zi_C) (nc ns : Nat) : zi_O := match st with
  | .inl (.long x) :: r => some (.inl (pc + n, al, .inl (op x) :: r, A, nc, ns))
  | _ => none
def zi_dup (pc n : Nat) (al : List (Nat × zi_V)) (st : List zi_V) (A : List zi_C) (nc ns : Nat) : zi_O := match st with
  | v :: r => bif Nat.beq (zi_cat v) 1 then some (.inl (pc + n, al, v :: v :: r, A, nc, ns)) else none
  | [] => none
def zi_pop (pc n : Nat) (al : List (Nat × zi_V)) (st : List zi_V) (A : List zi_C) (nc ns : Nat) : zi_O := match st with
  | v :: r => bif Nat.beq (zi_cat v) 1 then some (.inl (pc + n, al, r, A, nc, ns)) else none
  | [] => none
def zi_dup2 (pc n : Nat) (al : List (Nat × zi_V)) (st : List zi_V) (A : List zi_C) (nc ns : Nat) : zi_O := match st with
  | v :: w :: r => bif Nat.beq (zi_cat v) 2 then some (.inl (pc + n, al, v :: v :: w :: r, A, nc, ns)) else bif Nat.beq (zi_cat w) 1 then some (.inl (pc + n, al, v :: w :: v :: w :: r, A, nc, ns)) else none
  | _ => none
def zi_br (pc n : Nat) (al : List (Nat × zi_V)) (st : List zi_V) (A : List zi_C) (nc ns : Nat) (tgt : Nat) (q : Option Bool) : zi_O := match q with
  | some true => some (.inl (tgt, al, st, A, nc, ns))
  | some false => some (.inl (pc + n, al, st, A, nc, ns))
  | none => none
def zi_if1 (c : ClassFile.Cond) (pc n : Nat) (al : List (Nat × zi_V)) (st : List zi_V) (A : List zi_C) (nc ns : Nat) (tgt : Nat) : zi_O := match st with
  | v :: r => zi_br pc n al r A nc ns tgt (zi_test c v (.inl (.int 0)))
  | _ => none
def zi_if2 (c : ClassFile.Cond) (pc n : Nat) (al : List (Nat × zi_V)) (st : List zi_V) (A : List zi_C) (nc ns : Nat) (tgt : Nat) : zi_O := match st with
  | w :: v :: r => zi_br pc n al r A nc ns tgt (zi_test c v w)
  | _ => none
def zi_nul (k : Bool) (pc n : Nat) (al : List (Nat × zi_V)) (st : List zi_V) (A : List zi_C) (nc ns : Nat) (tgt : Nat) : zi_O := match st with
  | .inl .null :: r => zi_br pc n al r A nc ns tgt (some k)
  | .inl (.ref _) :: r => zi_br pc n al r A nc ns tgt (some (!k))
  | _ => none
def zi_tsw (lo hi : Int) (al : List (Nat × zi_V)) (st : List zi_V) (A : List zi_C) (nc ns : Nat) (o : List Nat) : zi_O := match st, o with
  | v :: r, d :: ts => match zi_iv v with
    | some q => bif decide (q.2.toInt < lo) || decide (hi < q.1.toInt) then some (.inl (d, al, r, A, nc, ns)) else
        bif decide (q.1 = q.2) && !decide (q.1.toInt < lo) && !decide (hi < q.1.toInt) then (match ts[(q.1.toInt - lo).toNat]? with
          | some t => some (.inl (t, al, r, A, nc, ns))
          | none => none) else none
    | none => none
  | _, _ => none
noncomputable def zi_get (pc n : Nat) (al : List (Nat × zi_V)) (st : List zi_V) (A : List zi_C) (nc ns : Nat) (ci k : Nat) : zi_O := match st with
  | .inl (.ref r) :: rest => bif Nat.ble 10 r then (match A[r - 10]? with
      | some (.inl q) => bif Nat.beq q.1 ci then (match q.2[k]? with
          | some v => some (.inl (pc + n, al, v :: rest, A, nc, ns))
          | none => none) else none
      | _ => none)
    else bif Nat.ble (r + 1) 4 && Nat.beq ci 100 then (bif Nat.beq k 0 then some (.inl (pc + n, al, .inl (.ref (4 + r)) :: rest, A, nc, ns)) else bif Nat.beq k 1 then some (.inl (pc + n, al, .inl (.int 0) :: rest, A, nc, ns)) else none) else none
  | _ => none
noncomputable def zi_put (pc n : Nat) (al : List (Nat × zi_V)) (st : List zi_V) (A : List zi_C) (nc ns : Nat) (ci k : Nat) : zi_O := match st with
  | v :: .inl (.ref r) :: rest => bif Nat.ble 10 r then (match A[r - 10]? with
      | some (.inl q) => bif Nat.beq q.1 ci && Nat.ble (k + 1) q.2.length && zi_fit (zi_ty ci k) v then some (.inl (pc + n, al, rest, A.set (r - 10) (.inl (ci, q.2.set k v)), nc, ns)) else none
      | _ => none) else none
  | _ => none
def zi_gts (pc n : Nat) (al : List (Nat × zi_V)) (st : List zi_V) (A : List zi_C) (nc ns : Nat) (k : Nat) : zi_O := match k with
  | 0 => some (.inl (pc + n, al, .inl (.int 1) :: st, A, nc, ns))
  | _ => some (.inl (pc + n, al, .inl (.retAddr 0) :: st, A, nc, ns))
noncomputable def zi_len (sl : List zi_V) (pc n : Nat) (al : List (Nat × zi_V)) (st : List zi_V) (A : List zi_C) (nc ns : Nat) : zi_O := match st with
  | .inl (.ref r) :: rest => bif Nat.ble 10 r then (match A[r - 10]? with
      | some (.inr q) => bif Nat.ble q.1 6 then some (.inl (pc + n, al, .inl (.int (Int32.ofNat q.2.1)) :: rest, A, nc, ns)) else none
      | _ => none)
    else bif Nat.beq r 8 then (match sl with | [] => none | _ :: _ => some (.inl (pc + n, al, .inl (.int (Int32.ofNat sl.length)) :: rest, A, nc, ns)))
    else bif Nat.ble 4 r && Nat.ble (r + 1) 8 then some (.inl (pc + n, al, .inl (.int (Int32.ofNat (zi_sn.getD (r - 4) 0))) :: rest, A, nc, ns)) else none
  | _ => none
/-- loads: t the wanted type's number (7: references of any class) -/
noncomputable def zi_ald (t : Nat) (sl : List zi_V) (pc n : Nat) (al : List (Nat × zi_V)) (st : List zi_V) (A : List zi_C) (nc ns : Nat) : zi_O := match st with
  | .inl (.int x) :: .inl (.ref r) :: rest => bif Nat.ble 10 r then (match A[r - 10]? with
      | some (.inr q) => bif ((Nat.beq q.1 t && Nat.ble q.1 6) || (Nat.beq t 7 && Nat.ble 4 q.1 && Nat.ble q.1 6)) && zi_in x q.2.1 then some (.inl (pc + n, al, zi_look q.2.2.1 q.2.2.2 x.toNatClampNeg :: rest, A, nc, ns)) else none
      | _ => none)
    else bif Nat.beq r 8 && Nat.beq t 0 && zi_in x sl.length then (match sl[x.toNatClampNeg]? with
      | some v => some (.inl (pc + n, al, v :: rest, A, nc, ns))
      | none => none)
    else bif Nat.ble 4 r && Nat.ble (r + 1) 8 && Nat.beq t 2 && zi_in x (zi_sn.getD (r - 4) 0) then some (.inl (pc + n, al, .inl (.int ((zi_sb.getD (r - 4) []).getD x.toNatClampNeg 0)) :: rest, A, nc, ns)) else none
  | _ => none
/-- what may be stored: 0 any int, 1 a long, 2 an exact boolean, 3 an exact char -/
def zi_sok (t : Nat) (v : zi_V) : Bool := match t with
  | 0 => Nat.beq (zi_kd v) 0
  | 1 => Nat.beq (zi_kd v) 1
  | 2 => (match v with | .inl (.int x) => decide (narrow .boolean (.int x) = .int x) | _ => false)
  | 3 => (match v with | .inl (.int x) => decide (narrow .char (.int x) = .int x) | _ => false)
  | _ => false
noncomputable def zi_ast (t : Nat) (pc n : Nat) (al : List (Nat × zi_V)) (st : List zi_V) (A : List zi_C) (nc ns : Nat) : zi_O := match st with
  | v :: .inl (.int x) :: .inl (.ref r) :: rest => bif Nat.ble 10 r then (match A[r - 10]? with
      | some (.inr q) => bif Nat.beq q.1 t && zi_in x q.2.1 && zi_sok t v then some (.inl (pc + n, al, rest, A.set (r - 10) (.inr (q.1, q.2.1, q.2.2.1, (x.toNatClampNeg, v) :: q.2.2.2)), nc, ns)) else none
      | _ => none) else none
  | _ => none
/-- a reference into an array: null, or an object of just the array's class -/
noncomputable def zi_aso (A : List zi_C) (t : Nat) (v : zi_V) : Bool := match v with
  | .inl .null => true
  | .inl (.ref r) => Nat.ble 10 r && (match A[r - 10]? with
      | some (.inl q) => decide (some (zi_ft t) = (zi_Fs[q.1]?).map (fun z => FieldType.object z.1))
      | _ => false)
  | _ => false
noncomputable def zi_aas (pc n : Nat) (al : List (Nat × zi_V)) (st : List zi_V) (A : List zi_C) (nc ns : Nat) : zi_O := match st with
  | v :: .inl (.int x) :: .inl (.ref r) :: rest => bif Nat.ble 10 r then (match A[r - 10]? with
      | some (.inr q) => bif Nat.ble 4 q.1 && Nat.ble q.1 6 && zi_in x q.2.1 && zi_aso A q.1 v then some (.inl (pc + n, al, rest, A.set (r - 10) (.inr (q.1, q.2.1, q.2.2.1, (x.toNatClampNeg, v) :: q.2.2.2)), nc, ns)) else none
      | _ => none) else none
  | _ => none
def zi_nw (pc n : Nat) (al : List (Nat × zi_V)) (st : List zi_V) (A : List zi_C) (nc ns : Nat) (ci : Nat) : zi_O :=
  some (.inl (pc + n, al, .inl (.ref (10 + A.length)) :: st, A ++ [.inl (ci, zi_new ci)], nc + 1, ns + (zi_Fs.getD ci ("", [])).2.length))
def zi_nwa (pc n : Nat) (al : List (Nat × zi_V)) (st : List zi_V) (A : List zi_C) (nc ns : Nat) (t : Nat) : zi_O := match st with
  | .inl (.int x) :: r => bif !decide (x < 0) && Nat.ble x.toNatClampNeg 1000000 && Nat.ble t 6 then some (.inl (pc + n, al, .inl (.ref (10 + A.length)) :: r, A ++ [.inr (t, x.toNatClampNeg, zi_df t, [])], nc + 1, ns + x.toNatClampNeg)) else none
  | _ => none
noncomputable def zi_inv (call : zi_K) (pc n : Nat) (al : List (Nat × zi_V)) (st : List zi_V) (A : List zi_C) (nc ns : Nat) (mi k : Nat) : zi_O :=
  bif Nat.ble k st.length && Nat.ble (zi_cats (st.drop k)) 8 then (match call mi (st.take k).reverse A with
    | some q => (match q.1 with
      | some v => some (.inl (pc + n, al, v :: st.drop k, q.2.1, nc + q.2.2.1, ns + q.2.2.2))
      | none => some (.inl (pc + n, al, st.drop k, q.2.1, nc + q.2.2.1, ns + q.2.2.2)))
    | none => none) else none
/-- Math.max, Math.min -/
def zi_mm (z : Nat) (pc n : Nat) (al : List (Nat × zi_V)) (st : List zi_V) (A : List zi_C) (nc ns : Nat) : zi_O := match st with
  | .inl (.int y) :: .inl (.int x) :: r => some (.inl (pc + n, al, .inl (.int (match z with | 0 => (if x < y then y else x) | _ => (if y < x then y else x))) :: r, A, nc, ns))
  | _ => none
noncomputable def zi_obj (pc n : Nat) (al : List (Nat × zi_V)) (st : List zi_V) (A : List zi_C) (nc ns : Nat) : zi_O := match st with
  | .inl (.ref _) :: r => bif Nat.ble (zi_cats r) 8 then some (.inl (pc + n, al, r, A, nc, ns)) else none
  | _ => none
def zi_rk (k : Nat) (v : zi_V) : Bool := match k with
  | 0 => Nat.beq (zi_kd v) 0
  | 1 => Nat.beq (zi_kd v) 1
  | _ => Nat.ble 2 (zi_kd v)
def zi_ret (k : Nat) (ret : Option FieldType) (st : List zi_V) : zi_O := match ret, st with
  | some ty, [v] => bif zi_rok ty v && zi_rk k v then some (.inr (some v)) else none
  | _, _ => none
def zi_rtv (ret : Option FieldType) (st : List zi_V) : zi_O := match ret, st with
  | none, [] => some (.inr none)
  | _, _ => none
/-- receivers of virtual calls: objects of the callee's own class, or String constants -/
noncomputable def zi_rcv (A : List zi_C) (ci : Nat) (v : Option zi_V) : Bool := match v with
  | some (.inl (.ref r)) => bif Nat.ble 10 r then (match A[r - 10]? with
      | some (.inl q) => Nat.beq q.1 ci
      | _ => false) else Nat.ble (r + 1) 4 && Nat.beq ci 100
  | _ => false
noncomputable def zi_do (call : zi_K) (sl : List zi_V) (nL : Nat) (ret : Option FieldType) (pc : Nat) (al : List (Nat × zi_V)) (st : List zi_V) (A : List zi_C) (nc ns : Nat) (i : Instr) (n : Nat) (o : List Nat) : zi_O := match i with
  | .iconst k => zi_ps pc n al st A nc ns (.inl (.int (Int32.ofInt k)))
  | .bipush k => zi_ps pc n al st A nc ns (.inl (.int (Int8.ofInt k).toInt32))
  | .sipush k => zi_ps pc n al st A nc ns (.inl (.int (Int16.ofInt k).toInt32))
  | .lconst k => zi_ps pc n al st A nc ns (.inl (.long (Int64.ofNat k.val)))
  | .aconst_null => zi_ps pc n al st A nc ns (.inl .null)
  | .ldc _ => (match o with
      | 0 :: v :: _ => zi_ps pc n al st A nc ns (.inl (.int (Int32.ofNat v)))
      | 1 :: r :: _ => zi_ps pc n al st A nc ns (.inl (.ref r))
      | _ => none)
  | .ldc_w _ => (match o with
      | 0 :: v :: _ => zi_ps pc n al st A nc ns (.inl (.int (Int32.ofNat v)))
      | _ => none)
  | .ldc2_w _ => (match o with
      | v :: _ => zi_ps pc n al st A nc ns (.inl (.long (Int64.ofNat v)))
      | _ => none)
  | .iload k => zi_ld pc n al st A nc ns k 0
  | .iload_n k => zi_ld pc n al st A nc ns k.val 0
  | .lload k => zi_ld pc n al st A nc ns k 1
  | .lload_n k => zi_ld pc n al st A nc ns k.val 1
  | .aload k => zi_lda pc n al st A nc ns k
  | .aload_n k => zi_lda pc n al st A nc ns k.val
  | .istore k => zi_sti pc n nL al st A nc ns k
  | .istore_n k => zi_sti pc n nL al st A nc ns k.val
  | .lstore k => zi_stl pc n nL al st A nc ns k
  | .lstore_n k => zi_stl pc n nL al st A nc ns k.val
  | .astore k => zi_sta pc n nL al st A nc ns k
  | .astore_n k => zi_sta pc n nL al st A nc ns k.val
  | .iinc k d => zi_inc pc n nL al st A nc ns k d
  | .iadd => zi_ii (fun x y => x + y) pc n al st A nc ns
  | .isub => zi_ii (fun x y => x - y) pc n al st A nc ns
  | .imul => zi_ii (fun x y => x * y) pc n al st A nc ns
  | .iand => zi_ii (fun x y => x &&& y) pc n al st A nc ns
  | .ior => zi_ii (fun x y => x ||| y) pc n al st A nc ns
  | .ixor => zi_ii (fun x y => x ^^^ y) pc n al st A nc ns
  | .ishl => zi_ii (fun x y => x <<< (y &&& 31)) pc n al st A nc ns
  | .ishr => zi_ii (fun x y => x >>> (y &&& 31)) pc n al st A nc ns
  | .iushr => zi_ii (fun x y => (x.toUInt32 >>> (y.toUInt32 &&& Int32.toUInt32 31)).toInt32) pc n al st A nc ns
  | .idiv => zi_iz (fun x y => x / y) pc n al st A nc ns
  | .irem => zi_iz (fun x y => x - x / y * y) pc n al st A nc ns
  | .ladd => zi_ll (fun x y => x + y) pc n al st A nc ns
  | .lsub => zi_ll (fun x y => x - y) pc n al st A nc ns
  | .lmul => zi_ll (fun x y => x * y) pc n al st A nc ns
  | .ldiv => zi_lz (fun x y => x / y) pc n al st A nc ns
  | .lrem => zi_lz (fun x y => x - x / y * y) pc n al st A nc ns
  | .land => zi_ll (fun x y => x &&& y) pc n al st A nc ns
  | .lor => zi_ll (fun x y => x ||| y) pc n al st A nc ns
  | .lxor => zi_ll (fun x y => x ^^^ y) pc n al st A nc ns
  | .lcmp => zi_lc pc n al st A nc ns
  | .lshl => zi_lw (fun x y => x <<< (y.toInt64 &&& 63)) pc n al st A nc ns
  | .lshr => zi_lw (fun x y => x >>> (y.toInt64 &&& 63)) pc n al st A nc ns
  | .lushr => zi_lw (fun x y => (x.toUInt64 >>> (y.toInt64.toUInt64 &&& Int64.toUInt64 63)).toInt64) pc n al st A nc ns
  | .ineg => zi_i1 (fun x => .int (-x)) pc n al st A nc ns
  | .i2l => zi_i1 (fun x => .long x.toInt64) pc n al st A nc ns
  | .i2c => zi_i1 (fun x => .int (x.toUInt32 % 65536).toInt32) pc n al st A nc ns
  | .i2b => zi_i1 (fun x => .int x.toInt8.toInt32) pc n al st A nc ns
  | .l2i => zi_l1 (fun x => .int x.toInt32) pc n al st A nc ns
  | .lneg => zi_l1 (fun x => .long (-x)) pc n al st A nc ns
  | .dup => zi_dup pc n al st A nc ns
  | .pop => zi_pop pc n al st A nc ns
  | .dup2 => zi_dup2 pc n al st A nc ns
  | .ifCond c _ => (match o with | t :: _ => zi_if1 c pc n al st A nc ns t | _ => none)
  | .if_icmp c _ => (match o with | t :: _ => zi_if2 c pc n al st A nc ns t | _ => none)
  | .goto _ => (match o with | t :: _ => some (.inl (t, al, st, A, nc, ns)) | _ => none)
  | .ifnull _ => (match o with | t :: _ => zi_nul true pc n al st A nc ns t | _ => none)
  | .ifnonnull _ => (match o with | t :: _ => zi_nul false pc n al st A nc ns t | _ => none)
  | .tableswitch _ lo hi _ => zi_tsw lo hi al st A nc ns o
  | .lookupswitch d ps => zi_lsw d ps.toList pc al st A nc ns
  | .getfield _ => (match o with | ci :: k :: _ => zi_get pc n al st A nc ns ci k | _ => none)
  | .putfield _ => (match o with | ci :: k :: _ => zi_put pc n al st A nc ns ci k | _ => none)
  | .getstatic _ => (match o with | k :: _ => zi_gts pc n al st A nc ns k | _ => none)
  | .arraylength => zi_len sl pc n al st A nc ns
  | .iaload => zi_ald 0 sl pc n al st A nc ns
  | .laload => zi_ald 1 sl pc n al st A nc ns
  | .baload => zi_ald 2 sl pc n al st A nc ns
  | .caload => zi_ald 3 sl pc n al st A nc ns
  | .aaload => zi_ald 7 sl pc n al st A nc ns
  | .iastore => zi_ast 0 pc n al st A nc ns
  | .lastore => zi_ast 1 pc n al st A nc ns
  | .bastore => zi_ast 2 pc n al st A nc ns
  | .castore => zi_ast 3 pc n al st A nc ns
  | .aastore => zi_aas pc n al st A nc ns
  | .new _ => (match o with | ci :: _ => zi_nw pc n al st A nc ns ci | _ => none)
  | .newarray _ => (match o with | t :: _ => zi_nwa pc n al st A nc ns t | _ => none)
  | .anewarray _ => (match o with | t :: _ => zi_nwa pc n al st A nc ns t | _ => none)
  | .invokestatic _ => (match o with
      | [z] => bif Nat.ble (zi_cats st) 10 then zi_mm z pc n al st A nc ns else none
      | mi :: k :: _ => zi_inv call pc n al st A nc ns mi k
      | _ => none)
  | .invokespecial _ => (match o with
      | [] => zi_obj pc n al st A nc ns
      | mi :: k :: _ => (match st[k - 1]? with | some (.inl (.ref _)) => bif Nat.ble 1 k then zi_inv call pc n al st A nc ns mi k else none | _ => none)
      | _ => none)
  | .invokevirtual _ => (match o with | mi :: k :: ci :: _ => bif Nat.ble 1 k && zi_rcv A ci st[k - 1]? then zi_inv call pc n al st A nc ns mi k else none | _ => none)
  | .ireturn => zi_ret 0 ret st
  | .lreturn => zi_ret 1 ret st
  | .areturn => zi_ret 2 ret st
  | .return_ => zi_rtv ret st
  | _ => none
def zi_isr (i : Instr) : Bool := match i with
  | .ireturn => true
  | .lreturn => true
  | .areturn => true
  | .return_ => true
  | _ => false
noncomputable def zi_stp (call : zi_K) (sl : List zi_V) (M : zi_M) (f : zi_F) : zi_O := match zi_lk2 f.1 M.2.2.2.2.1 with
  | some e => (match zi_do call sl M.2.2.1 M.2.2.2.1 f.1 f.2.1 f.2.2.1 f.2.2.2.1 f.2.2.2.2.1 f.2.2.2.2.2 e.1 e.2.1 e.2.2 with
    | some (.inl g) => some (.inl g)
    | some (.inr v) => bif zi_isr e.1 then some (.inr v) else none
    | none => none)
  | none => none
/-- the counts only grow -/
def zi_up (f g : zi_F) : Bool := Nat.ble f.2.2.2.2.1 g.2.2.2.2.1 && Nat.ble f.2.2.2.2.2 g.2.2.2.2.2
/-- a frame's run to its return -/
noncomputable def zi_loop (call : zi_K) (M : zi_M) (n : Nat) (f : zi_F) : Option zi_R := Nat.rec (motive := fun _ => zi_F → Option zi_R) (fun _ => none) (fun _ ih f => match zi_stp call [] M f with
  | some (.inl g) => bif zi_up f g then ih g else none
  | some (.inr v) => some (v, f.2.2.2.1, f.2.2.2.2.1, f.2.2.2.2.2)
  | none => none) n f
noncomputable def zi_ev (Ms : List zi_M) (n d : Nat) : zi_K := Nat.rec (motive := fun _ => zi_K) (fun _ _ _ => none) (fun _ ih mi vs A => match Ms[mi]? with
  | some M => bif Nat.ble (zi_cats vs) M.2.2.1 then zi_loop ih M n (0, zi_ent 0 vs, [], A, 0, 0) else none
  | none => none) d
/-- so many steps of a frame -/
noncomputable def zi_run (call : zi_K) (sl : List zi_V) (M : zi_M) (n : Nat) (f : zi_F) : Option zi_F := Nat.rec (motive := fun _ => zi_F → Option zi_F) (fun f => some f) (fun _ ih f => match zi_stp call sl M f with
  | some (.inl g) => bif zi_up f g then ih g else none
  | _ => none) n f
