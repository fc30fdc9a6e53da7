/-! A second interpreter over the first one: ints and longs are integers, what cells hold are functions of their places. Worlds are symbolic here; the first interpreter follows it step by step. -/
abbrev yi_V : Type := Int ⊕ (Int ⊕ Option Nat)
abbrev yi_H : Type := (Nat → Nat → Int) × (Nat → Nat → Int) × (Nat → Nat → Option Nat) × (Nat → Nat) × (Nat → Nat) × Nat
abbrev yi_F : Type := Nat × List (Nat × yi_V) × List yi_V × yi_H × Nat × Nat
abbrev yi_R : Type := Option yi_V × yi_H × Nat × Nat
abbrev yi_K : Type := Nat → List yi_V → yi_H → Option yi_R
abbrev yi_O : Type := Option (yi_F ⊕ Option yi_V)
abbrev yi_i (z : Int) : yi_V := Sum.inl z
abbrev yi_l (z : Int) : yi_V := Sum.inr (Sum.inl z)
abbrev yi_r (p : Nat) : yi_V := Sum.inr (Sum.inr (some p))
abbrev yi_n : yi_V := Sum.inr (Sum.inr none)
def yi_w (z : Int) : Int := (z + 2147483648) % 4294967296 - 2147483648
def yi_bt (z : Int) : Int := (z + 128) % 256 - 128
def yi_W (z : Int) : Int := (z + 9223372036854775808) % 18446744073709551616 - 9223372036854775808
def yi_uI (H : yi_H) (p k : Nat) (z : Int) : yi_H := (fun p' k' => if p' = p ∧ k' = k then z else H.1 p' k', H.2)
def yi_uL (H : yi_H) (p k : Nat) (z : Int) : yi_H := (H.1, fun p' k' => if p' = p ∧ k' = k then z else H.2.1 p' k', H.2.2)
def yi_uR (H : yi_H) (p k : Nat) (z : Option Nat) : yi_H := (H.1, H.2.1, fun p' k' => if p' = p ∧ k' = k then z else H.2.2.1 p' k', H.2.2.2)
/-- a new cell of a kind, so long, all 0 -/
def yi_nw (H : yi_H) (k n : Nat) : yi_H := (fun p' k' => if p' = H.2.2.2.2.2 then 0 else H.1 p' k', fun p' k' => if p' = H.2.2.2.2.2 then 0 else H.2.1 p' k', fun p' k' => if p' = H.2.2.2.2.2 then none else H.2.2.1 p' k', fun p' => if p' = H.2.2.2.2.2 then k else H.2.2.2.1 p', fun p' => if p' = H.2.2.2.2.2 then n else H.2.2.2.2.1 p', H.2.2.2.2.2 + 1)
def yi_tk (ty : FieldType) : Nat := match ty with
  | .long => 1
  | .object _ => 2
  | .array _ => 2
  | _ => 0
def yi_rd (H : yi_H) (t p k : Nat) : yi_V := match t with
  | 0 => Sum.inl (H.1 p k)
  | 1 => Sum.inr (Sum.inl (H.2.1 p k))
  | _ => Sum.inr (Sum.inr (H.2.2.1 p k))
/-- whether a value is of a kind and may lie in a variable of a type -/
def yi_fit (ty : FieldType) (v : yi_V) : Bool := match ty, v with
  | .int, .inl _ => true
  | .boolean, .inl z => decide (z = 0) || decide (z = 1)
  | .byte, .inl z => decide (z = 0)
  | .char, .inl z => decide (0 ≤ z) && decide (z < 65536)
  | .long, .inr (.inl _) => true
  | .object _, .inr (.inr _) => true
  | .array _, .inr (.inr _) => true
  | _, _ => false
def yi_wrt (H : yi_H) (p k : Nat) (v : yi_V) : yi_H := match v with
  | .inl z => yi_uI H p k z
  | .inr (.inl z) => yi_uL H p k z
  | .inr (.inr z) => yi_uR H p k z
def yi_kd (v : yi_V) : Nat := match v with
  | .inl _ => 0
  | .inr (.inl _) => 1
  | .inr (.inr (some _)) => 2
  | .inr (.inr none) => 3
def yi_cat (v : yi_V) : Nat := match v with
  | .inr (.inl _) => 2
  | _ => 1
noncomputable def yi_loc (al : List (Nat × yi_V)) (j : Nat) : Option yi_V := List.rec (motive := fun _ => Option yi_V) none (fun q _ ih => bif Nat.beq q.1 j then some q.2 else ih) al
noncomputable def yi_del1 (i : Nat) (al : List (Nat × yi_V)) : List (Nat × yi_V) := List.rec (motive := fun _ => List (Nat × yi_V)) [] (fun q _ ih => bif (!(Nat.beq q.1 i) && !(Nat.beq (q.1 + 1) i && Nat.beq (yi_cat q.2) 2)) then q :: ih else ih) al
noncomputable def yi_del2 (i : Nat) (al : List (Nat × yi_V)) : List (Nat × yi_V) := List.rec (motive := fun _ => List (Nat × yi_V)) [] (fun q _ ih => bif (!(Nat.beq q.1 i) && (!(Nat.beq q.1 (i + 1)) && !(Nat.beq (q.1 + 1) i && Nat.beq (yi_cat q.2) 2))) then q :: ih else ih) al
noncomputable def yi_ent (i : Nat) (vs : List yi_V) : List (Nat × yi_V) := List.rec (motive := fun _ => Nat → List (Nat × yi_V)) (fun _ => []) (fun v _ ih => fun i => (i, v) :: ih (i + yi_cat v)) vs i
noncomputable def yi_cats (vs : List yi_V) : Nat := List.rec (motive := fun _ => Nat) 0 (fun v _ ih => yi_cat v + ih) vs
def yi_cmp (c : ClassFile.Cond) (a b : Int) : Bool := match c with
  | .eq => decide (a = b)
  | .ne => !decide (a = b)
  | .lt => decide (a < b)
  | .ge => decide (b ≤ a)
  | .gt => decide (b < a)
  | .le => decide (a ≤ b)
/-- the operations on integers -/
def yi_iand (a b : Int) : Int := (Int32.ofInt a &&& Int32.ofInt b).toInt
def yi_ior (a b : Int) : Int := (Int32.ofInt a ||| Int32.ofInt b).toInt
def yi_ixor (a b : Int) : Int := (Int32.ofInt a ^^^ Int32.ofInt b).toInt
def yi_shl (a b : Int) : Int := (Int32.ofInt a <<< (Int32.ofInt b &&& 31)).toInt
def yi_shr (a b : Int) : Int := (Int32.ofInt a >>> (Int32.ofInt b &&& 31)).toInt
def yi_ushr (a b : Int) : Int := ((Int32.ofInt a).toUInt32 >>> ((Int32.ofInt b).toUInt32 &&& Int32.toUInt32 31)).toInt32.toInt
def yi_land (a b : Int) : Int := (Int64.ofInt a &&& Int64.ofInt b).toInt
def yi_lor (a b : Int) : Int := (Int64.ofInt a ||| Int64.ofInt b).toInt
def yi_lxor (a b : Int) : Int := (Int64.ofInt a ^^^ Int64.ofInt b).toInt
def yi_lshl (a b : Int) : Int := (Int64.ofInt a <<< ((Int32.ofInt b).toInt64 &&& 63)).toInt
def yi_lshr (a b : Int) : Int := (Int64.ofInt a >>> ((Int32.ofInt b).toInt64 &&& 63)).toInt
def yi_lushr (a b : Int) : Int := ((Int64.ofInt a).toUInt64 >>> ((Int32.ofInt b).toInt64.toUInt64 &&& Int64.toUInt64 63)).toInt64.toInt
def yi_lcmp (a b : Int) : Int := if b < a then 1 else if a = b then 0 else -1
section YD
variable (pc n : Nat) (al : List (Nat × yi_V)) (st : List yi_V) (H : yi_H) (nc ns : Nat)
def yi_ps (v : yi_V) : yi_O := some (.inl (pc + n, al, v :: st, H, nc, ns))
noncomputable def yi_ld (i k : Nat) : yi_O := match yi_loc al i with
  | some v => bif Nat.beq (yi_kd v) k then some (.inl (pc + n, al, v :: st, H, nc, ns)) else none
  | none => none
noncomputable def yi_lda (i : Nat) : yi_O := match yi_loc al i with
  | some v => bif Nat.ble 2 (yi_kd v) then some (.inl (pc + n, al, v :: st, H, nc, ns)) else none
  | none => none
noncomputable def yi_sti (nL i : Nat) : yi_O := match st with
  | v :: r => bif Nat.beq (yi_kd v) 0 && Nat.ble (i + 1) nL then some (.inl (pc + n, (i, v) :: yi_del1 i al, r, H, nc, ns)) else none
  | [] => none
noncomputable def yi_sta (nL i : Nat) : yi_O := match st with
  | v :: r => bif Nat.ble 2 (yi_kd v) && Nat.ble (i + 1) nL then some (.inl (pc + n, (i, v) :: yi_del1 i al, r, H, nc, ns)) else none
  | [] => none
noncomputable def yi_stl (nL i : Nat) : yi_O := match st with
  | v :: r => bif Nat.beq (yi_kd v) 1 && Nat.ble (i + 2) nL then some (.inl (pc + n, (i, v) :: yi_del2 i al, r, H, nc, ns)) else none
  | [] => none
noncomputable def yi_inc (nL i : Nat) (k : Int) : yi_O := match yi_loc al i with
  | some (.inl x) => bif Nat.ble (i + 1) nL then some (.inl (pc + n, (i, .inl (yi_w (x + k))) :: yi_del1 i al, st, H, nc, ns)) else none
  | _ => none
def yi_ii (op : Int → Int → Int) : yi_O := match st with
  | .inl y :: .inl x :: r => some (.inl (pc + n, al, .inl (op x y) :: r, H, nc, ns))
  | _ => none
def yi_iz (op : Int → Int → Int) : yi_O := match st with
  | .inl y :: .inl x :: r => bif decide (y = 0) then none else some (.inl (pc + n, al, .inl (op x y) :: r, H, nc, ns))
  | _ => none
def yi_ll (op : Int → Int → Int) : yi_O := match st with
  | .inr (.inl y) :: .inr (.inl x) :: r => some (.inl (pc + n, al, .inr (.inl (op x y)) :: r, H, nc, ns))
  | _ => none
def yi_lz (op : Int → Int → Int) : yi_O := match st with
  | .inr (.inl y) :: .inr (.inl x) :: r => bif decide (y = 0) then none else some (.inl (pc + n, al, .inr (.inl (op x y)) :: r, H, nc, ns))
  | _ => none
def yi_lc : yi_O := match st with
  | .inr (.inl y) :: .inr (.inl x) :: r => some (.inl (pc + n, al, .inl (yi_lcmp x y) :: r, H, nc, ns))
  | _ => none
def yi_lw (op : Int → Int → Int) : yi_O := match st with
  | .inl y :: .inr (.inl x) :: r => some (.inl (pc + n, al, .inr (.inl (op x y)) :: r, H, nc, ns))
  | _ => none
def yi_i1 (op : Int → yi_V) : yi_O := match st with
  | .inl x :: r => some (.inl (pc + n, al, op x :: r, H, nc, ns))
  | _ => none
def yi_l1 (op : Int → yi_V) : yi_O := match st with
  | .inr (.inl x) :: r => some (.inl (pc + n, al, op x :: r, H, nc, ns))
  | _ => none
def yi_dup : yi_O := match st with
  | v :: r => bif Nat.beq (yi_cat v) 1 then some (.inl (pc + n, al, v :: v :: r, H, nc, ns)) else none
  | [] => none
def yi_pop : yi_O := match st with
  | v :: r => bif Nat.beq (yi_cat v) 1 then some (.inl (pc + n, al, r, H, nc, ns)) else none
  | [] => none
def yi_dup2 : yi_O := match st with
  | v :: w :: r => bif Nat.beq (yi_cat v) 2 then some (.inl (pc + n, al, v :: v :: w :: r, H, nc, ns)) else bif Nat.beq (yi_cat w) 1 then some (.inl (pc + n, al, v :: w :: v :: w :: r, H, nc, ns)) else none
  | _ => none
def yi_br (tgt : Nat) (q : Bool) (r : List yi_V) : yi_O := some (.inl (bif q then tgt else pc + n, al, r, H, nc, ns))
def yi_if1 (c : ClassFile.Cond) (tgt : Nat) : yi_O := match st with
  | .inl z :: r => yi_br pc n al H nc ns tgt (yi_cmp c z 0) r
  | _ => none
def yi_if2 (c : ClassFile.Cond) (tgt : Nat) : yi_O := match st with
  | .inl w :: .inl v :: r => yi_br pc n al H nc ns tgt (yi_cmp c v w) r
  | _ => none
def yi_nul (k : Bool) (tgt : Nat) : yi_O := match st with
  | .inr (.inr none) :: r => yi_br pc n al H nc ns tgt k r
  | .inr (.inr (some _)) :: r => yi_br pc n al H nc ns tgt (!k) r
  | _ => none
def yi_tsw (lo hi : Int) (o : List Nat) : yi_O := match st, o with
  | .inl z :: r, d :: ts => bif decide (z < lo) || decide (hi < z) then some (.inl (d, al, r, H, nc, ns)) else (match ts[(z - lo).toNat]? with
      | some t => some (.inl (t, al, r, H, nc, ns))
      | none => none)
  | _, _ => none
def yi_lsw (d : Int) (ps : List (Int × Int)) : yi_O := match st with
  | .inl x :: r => bif decide (0 ≤ (pc : Int) + Op.lookupswitch.offset ps d x) then some (.inl (((pc : Int) + Op.lookupswitch.offset ps d x).toNat, al, r, H, nc, ns)) else none
  | _ => none
noncomputable def yi_get (ci k : Nat) : yi_O := match st with
  | .inr (.inr (some p)) :: rest => bif Nat.ble 10 p then (bif Nat.beq (H.2.2.2.1 p) ci && Nat.ble (k + 1) (zi_Fs.getD ci ("", [])).2.length && Nat.ble (ci + 1) 20 then some (.inl (pc + n, al, yi_rd H (yi_tk (zi_ty ci k)) p k :: rest, H, nc, ns)) else none)
    else bif Nat.ble (p + 1) 4 && Nat.beq ci 100 then (bif Nat.beq k 0 then some (.inl (pc + n, al, .inr (.inr (some (4 + p))) :: rest, H, nc, ns)) else bif Nat.beq k 1 then some (.inl (pc + n, al, .inl 0 :: rest, H, nc, ns)) else none) else none
  | _ => none
noncomputable def yi_put (ci k : Nat) : yi_O := match st with
  | v :: .inr (.inr (some p)) :: rest => bif Nat.ble 10 p && (Nat.beq (H.2.2.2.1 p) ci && Nat.ble (k + 1) (zi_Fs.getD ci ("", [])).2.length && Nat.ble (ci + 1) 20 && yi_fit (zi_ty ci k) v) then some (.inl (pc + n, al, rest, yi_wrt H p k v, nc, ns)) else none
  | _ => none
def yi_gts (k : Nat) : yi_O := match k with
  | 0 => some (.inl (pc + n, al, .inl 1 :: st, H, nc, ns))
  | _ => none
noncomputable def yi_len (sl : List Int) : yi_O := match st with
  | .inr (.inr (some p)) :: rest => bif Nat.ble 10 p then (bif Nat.ble 20 (H.2.2.2.1 p) && Nat.ble (H.2.2.2.1 p) 26 then some (.inl (pc + n, al, .inl (H.2.2.2.2.1 p) :: rest, H, nc, ns)) else none)
    else bif Nat.beq p 8 then (match sl with | [] => none | _ :: _ => some (.inl (pc + n, al, .inl sl.length :: rest, H, nc, ns)))
    else bif Nat.ble 4 p && Nat.ble (p + 1) 8 then some (.inl (pc + n, al, .inl (zi_sn.getD (p - 4) 0) :: rest, H, nc, ns)) else none
  | _ => none
noncomputable def yi_ald (t : Nat) (sl : List Int) : yi_O := match st with
  | .inl x :: .inr (.inr (some p)) :: rest => bif Nat.ble 10 p then (bif ((Nat.beq (H.2.2.2.1 p) (20 + t) && Nat.ble t 6) || (Nat.beq t 7 && Nat.ble 24 (H.2.2.2.1 p) && Nat.ble (H.2.2.2.1 p) 26)) && decide (0 ≤ x) && decide (x < H.2.2.2.2.1 p) then some (.inl (pc + n, al, yi_rd H (zi_tk t) p x.toNat :: rest, H, nc, ns)) else none)
    else bif Nat.beq p 8 && Nat.beq t 0 && decide (0 ≤ x) && decide (x < sl.length) then some (.inl (pc + n, al, .inl (sl.getD x.toNat 0) :: rest, H, nc, ns))
    else bif Nat.ble 4 p && Nat.ble (p + 1) 8 && Nat.beq t 2 && decide (0 ≤ x) && decide (x < zi_sn.getD (p - 4) 0) then some (.inl (pc + n, al, .inl ((zi_sb.getD (p - 4) []).getD x.toNat 0).toInt :: rest, H, nc, ns)) else none
  | _ => none
noncomputable def yi_ast (t : Nat) : yi_O := match st with
  | v :: .inl x :: .inr (.inr (some p)) :: rest => bif Nat.ble 10 p && Nat.beq (H.2.2.2.1 p) (20 + t) && Nat.ble t 3 && decide (0 ≤ x) && decide (x < H.2.2.2.2.1 p) && yi_fit (zi_ft t) v then some (.inl (pc + n, al, rest, yi_wrt H p x.toNat v, nc, ns)) else none
  | _ => none
/-- the class of what lies in arrays of references -/
def yi_ec (k : Nat) : Nat := match k with
  | 24 => 5
  | 25 => 9
  | 26 => 10
  | _ => 99
end YD
def yi_nz (H : yi_H) (k : Nat) (z : Option Nat) : Bool := match z with
  | none => true
  | some q => Nat.ble 10 q && Nat.beq (H.2.2.2.1 q) (yi_ec k)
section YD
variable (pc n : Nat) (al : List (Nat × yi_V)) (st : List yi_V) (H : yi_H) (nc ns : Nat)
noncomputable def yi_aas : yi_O := match st with
  | .inr (.inr z) :: .inl x :: .inr (.inr (some p)) :: rest => bif Nat.ble 10 p && Nat.ble 24 (H.2.2.2.1 p) && Nat.ble (H.2.2.2.1 p) 26 && decide (0 ≤ x) && decide (x < H.2.2.2.2.1 p) && yi_nz H (H.2.2.2.1 p) z then some (.inl (pc + n, al, rest, yi_uR H p x.toNat z, nc, ns)) else none
  | _ => none
def yi_nwo (ci : Nat) : yi_O := bif Nat.ble (ci + 1) 12 then some (.inl (pc + n, al, .inr (.inr (some H.2.2.2.2.2)) :: st, yi_nw H ci 0, nc + 1, ns + (zi_Fs.getD ci ("", [])).2.length)) else none
def yi_nwa (t : Nat) : yi_O := match st with
  | .inl x :: r => bif decide (0 ≤ x) && decide (x ≤ 1000000) && Nat.ble t 6 then some (.inl (pc + n, al, .inr (.inr (some H.2.2.2.2.2)) :: r, yi_nw H (20 + t) x.toNat, nc + 1, ns + x.toNat)) else none
  | _ => none
noncomputable def yi_inv (call : yi_K) (mi k : Nat) : yi_O :=
  bif Nat.ble k st.length && Nat.ble (yi_cats (st.drop k)) 8 then (match call mi (st.take k).reverse H with
    | some q => (match q.1 with
      | some v => some (.inl (pc + n, al, v :: st.drop k, q.2.1, nc + q.2.2.1, ns + q.2.2.2))
      | none => some (.inl (pc + n, al, st.drop k, q.2.1, nc + q.2.2.1, ns + q.2.2.2)))
    | none => none) else none
def yi_mm (z : Nat) : yi_O := match st with
  | .inl y :: .inl x :: r => some (.inl (pc + n, al, .inl (match z with | 0 => (if x < y then y else x) | _ => (if y < x then y else x)) :: r, H, nc, ns))
  | _ => none
noncomputable def yi_obj : yi_O := match st with
  | .inr (.inr (some _)) :: r => bif Nat.ble (yi_cats r) 8 then some (.inl (pc + n, al, r, H, nc, ns)) else none
  | _ => none
end YD
/-- what may be given back -/
def yi_ret (k : Nat) (ret : Option FieldType) (st : List yi_V) : yi_O := match ret, st with
  | some ty, [v] => bif yi_fit ty v && (match k with | 0 => Nat.beq (yi_kd v) 0 | 1 => Nat.beq (yi_kd v) 1 | _ => Nat.ble 2 (yi_kd v)) then some (.inr (some v)) else none
  | _, _ => none
def yi_rtv (ret : Option FieldType) (st : List yi_V) : yi_O := match ret, st with
  | none, [] => some (.inr none)
  | _, _ => none
noncomputable def yi_rcv (H : yi_H) (ci : Nat) (v : Option yi_V) : Bool := match v with
  | some (.inr (.inr (some p))) => bif Nat.ble 10 p then Nat.beq (H.2.2.2.1 p) ci && Nat.ble (ci + 1) 20 else Nat.ble (p + 1) 4 && Nat.beq ci 100
  | _ => false
noncomputable def yi_do (call : yi_K) (sl : List Int) (nL : Nat) (ret : Option FieldType) (pc : Nat) (al : List (Nat × yi_V)) (st : List yi_V) (H : yi_H) (nc ns : Nat) (i : Instr) (n : Nat) (o : List Nat) : yi_O := match i with
  | .iconst k => bif decide (-128 ≤ k) && decide (k < 128) then yi_ps pc n al st H nc ns (.inl k) else none
  | .bipush k => bif decide (-128 ≤ k) && decide (k < 128) then yi_ps pc n al st H nc ns (.inl k) else none
  | .sipush k => bif decide (-32768 ≤ k) && decide (k < 32768) then yi_ps pc n al st H nc ns (.inl k) else none
  | .lconst k => yi_ps pc n al st H nc ns (.inr (.inl k.val))
  | .aconst_null => yi_ps pc n al st H nc ns (.inr (.inr none))
  | .ldc _ => (match o with
      | 0 :: v :: _ => yi_ps pc n al st H nc ns (.inl (yi_w v))
      | 1 :: r :: _ => yi_ps pc n al st H nc ns (.inr (.inr (some r)))
      | _ => none)
  | .ldc_w _ => (match o with
      | 0 :: v :: _ => yi_ps pc n al st H nc ns (.inl (yi_w v))
      | _ => none)
  | .ldc2_w _ => (match o with
      | v :: _ => yi_ps pc n al st H nc ns (.inr (.inl (yi_W v)))
      | _ => none)
  | .iload k => yi_ld pc n al st H nc ns k 0
  | .iload_n k => yi_ld pc n al st H nc ns k.val 0
  | .lload k => yi_ld pc n al st H nc ns k 1
  | .lload_n k => yi_ld pc n al st H nc ns k.val 1
  | .aload k => yi_lda pc n al st H nc ns k
  | .aload_n k => yi_lda pc n al st H nc ns k.val
  | .istore k => yi_sti pc n al st H nc ns nL k
  | .istore_n k => yi_sti pc n al st H nc ns nL k.val
  | .lstore k => yi_stl pc n al st H nc ns nL k
  | .lstore_n k => yi_stl pc n al st H nc ns nL k.val
  | .astore k => yi_sta pc n al st H nc ns nL k
  | .astore_n k => yi_sta pc n al st H nc ns nL k.val
  | .iinc k d => yi_inc pc n al st H nc ns nL k d
  | .iadd => yi_ii pc n al st H nc ns (fun x y => yi_w (x + y))
  | .isub => yi_ii pc n al st H nc ns (fun x y => yi_w (x - y))
  | .imul => yi_ii pc n al st H nc ns (fun x y => yi_w (x * y))
  | .iand => yi_ii pc n al st H nc ns yi_iand
  | .ior => yi_ii pc n al st H nc ns yi_ior
  | .ixor => yi_ii pc n al st H nc ns yi_ixor
  | .ishl => yi_ii pc n al st H nc ns yi_shl
  | .ishr => yi_ii pc n al st H nc ns yi_shr
  | .iushr => yi_ii pc n al st H nc ns yi_ushr
  | .idiv => yi_iz pc n al st H nc ns (fun x y => yi_w (x.tdiv y))
  | .irem => yi_iz pc n al st H nc ns (fun x y => x.tmod y)
  | .ladd => yi_ll pc n al st H nc ns (fun x y => yi_W (x + y))
  | .lsub => yi_ll pc n al st H nc ns (fun x y => yi_W (x - y))
  | .lmul => yi_ll pc n al st H nc ns (fun x y => yi_W (x * y))
  | .ldiv => yi_lz pc n al st H nc ns (fun x y => yi_W (x.tdiv y))
  | .lrem => yi_lz pc n al st H nc ns (fun x y => x.tmod y)
  | .land => yi_ll pc n al st H nc ns yi_land
  | .lor => yi_ll pc n al st H nc ns yi_lor
  | .lxor => yi_ll pc n al st H nc ns yi_lxor
  | .lcmp => yi_lc pc n al st H nc ns
  | .lshl => yi_lw pc n al st H nc ns yi_lshl
  | .lshr => yi_lw pc n al st H nc ns yi_lshr
  | .lushr => yi_lw pc n al st H nc ns yi_lushr
  | .ineg => yi_i1 pc n al st H nc ns (fun x => .inl (yi_w (-x)))
  | .i2l => yi_i1 pc n al st H nc ns (fun x => .inr (.inl x))
  | .i2b => yi_i1 pc n al st H nc ns (fun x => .inl (yi_bt x))
  | .i2c => yi_i1 pc n al st H nc ns (fun x => .inl (x % 65536))
  | .l2i => yi_l1 pc n al st H nc ns (fun x => .inl (yi_w x))
  | .lneg => yi_l1 pc n al st H nc ns (fun x => .inr (.inl (yi_W (-x))))
  | .dup => yi_dup pc n al st H nc ns
  | .pop => yi_pop pc n al st H nc ns
  | .dup2 => yi_dup2 pc n al st H nc ns
  | .ifCond c _ => (match o with | t :: _ => yi_if1 pc n al st H nc ns c t | _ => none)
  | .if_icmp c _ => (match o with | t :: _ => yi_if2 pc n al st H nc ns c t | _ => none)
  | .goto _ => (match o with | t :: _ => some (.inl (t, al, st, H, nc, ns)) | _ => none)
  | .ifnull _ => (match o with | t :: _ => yi_nul pc n al st H nc ns true t | _ => none)
  | .ifnonnull _ => (match o with | t :: _ => yi_nul pc n al st H nc ns false t | _ => none)
  | .tableswitch _ lo hi _ => yi_tsw al st H nc ns lo hi o
  | .lookupswitch d ps => yi_lsw pc al st H nc ns d ps.toList
  | .getfield _ => (match o with | ci :: k :: _ => yi_get pc n al st H nc ns ci k | _ => none)
  | .putfield _ => (match o with | ci :: k :: _ => yi_put pc n al st H nc ns ci k | _ => none)
  | .getstatic _ => (match o with | k :: _ => yi_gts pc n al st H nc ns k | _ => none)
  | .arraylength => yi_len pc n al st H nc ns sl
  | .iaload => yi_ald pc n al st H nc ns 0 sl
  | .laload => yi_ald pc n al st H nc ns 1 sl
  | .baload => yi_ald pc n al st H nc ns 2 sl
  | .caload => yi_ald pc n al st H nc ns 3 sl
  | .aaload => yi_ald pc n al st H nc ns 7 sl
  | .iastore => yi_ast pc n al st H nc ns 0
  | .lastore => yi_ast pc n al st H nc ns 1
  | .bastore => yi_ast pc n al st H nc ns 2
  | .castore => yi_ast pc n al st H nc ns 3
  | .aastore => yi_aas pc n al st H nc ns
  | .new _ => (match o with | ci :: _ => yi_nwo pc n al st H nc ns ci | _ => none)
  | .newarray _ => (match o with | t :: _ => yi_nwa pc n al st H nc ns t | _ => none)
  | .anewarray _ => (match o with | t :: _ => yi_nwa pc n al st H nc ns t | _ => none)
  | .invokestatic _ => (match o with
      | [z] => bif Nat.ble (yi_cats st) 10 then yi_mm pc n al st H nc ns z else none
      | mi :: k :: _ => yi_inv pc n al st H nc ns call mi k
      | _ => none)
  | .invokespecial _ => (match o with
      | [] => yi_obj pc n al st H nc ns
      | mi :: k :: _ => (match st[k - 1]? with | some (.inr (.inr (some _))) => bif Nat.ble 1 k then yi_inv pc n al st H nc ns call mi k else none | _ => none)
      | _ => none)
  | .invokevirtual _ => (match o with | mi :: k :: ci :: _ => bif Nat.ble 1 k && yi_rcv H ci st[k - 1]? then yi_inv pc n al st H nc ns call mi k else none | _ => none)
  | .ireturn => yi_ret 0 ret st
  | .lreturn => yi_ret 1 ret st
  | .areturn => yi_ret 2 ret st
  | .return_ => yi_rtv ret st
  | _ => none
noncomputable def yi_stp (call : yi_K) (sl : List Int) (M : zi_M) (f : yi_F) : yi_O := match zi_lk2 f.1 M.2.2.2.2.1 with
  | some e => (match yi_do call sl M.2.2.1 M.2.2.2.1 f.1 f.2.1 f.2.2.1 f.2.2.2.1 f.2.2.2.2.1 f.2.2.2.2.2 e.1 e.2.1 e.2.2 with
    | some (.inl g) => some (.inl g)
    | some (.inr v) => bif zi_isr e.1 then some (.inr v) else none
    | none => none)
  | none => none
def yi_up (f g : yi_F) : Bool := Nat.ble f.2.2.2.2.1 g.2.2.2.2.1 && Nat.ble f.2.2.2.2.2 g.2.2.2.2.2
noncomputable def yi_loop (call : yi_K) (M : zi_M) (n : Nat) (f : yi_F) : Option yi_R := Nat.rec (motive := fun _ => yi_F → Option yi_R) (fun _ => none) (fun _ ih f => match yi_stp call [] M f with
  | some (.inl g) => bif yi_up f g then ih g else none
  | some (.inr v) => some (v, f.2.2.2.1, f.2.2.2.2.1, f.2.2.2.2.2)
  | none => none) n f
noncomputable def yi_ev (Ms : List zi_M) (n d : Nat) : yi_K := Nat.rec (motive := fun _ => yi_K) (fun _ _ _ => none) (fun _ ih mi vs H => match Ms[mi]? with
  | some M => bif Nat.ble (yi_cats vs) M.2.2.1 then yi_loop ih M n (0, yi_ent 0 vs, [], H, 0, 0) else none
  | none => none) d
