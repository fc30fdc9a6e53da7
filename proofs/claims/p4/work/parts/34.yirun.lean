/-! One instruction, a frame, a call. -/
theorem yi_ofI8 {k : Int} (h : (decide (-128 ≤ k) && decide (k < 128)) = true) : (Int8.ofInt k).toInt32.toInt = k := by
  rw [Bool.and_eq_true, decide_eq_true_eq, decide_eq_true_eq] at h
  rw [Int8.toInt_toInt32]
  exact Int8.toInt_ofInt_of_le (by omega) (by omega)
theorem yi_ofI16 {k : Int} (h : (decide (-32768 ≤ k) && decide (k < 32768)) = true) : (Int16.ofInt k).toInt32.toInt = k := by
  rw [Bool.and_eq_true, decide_eq_true_eq, decide_eq_true_eq] at h
  rw [Int16.toInt_toInt32]
  exact Int16.toInt_ofInt_of_le (by omega) (by omega)
theorem yi_ofI32 {k : Int} (h : (decide (-128 ≤ k) && decide (k < 128)) = true) : (Int32.ofInt k).toInt = k := by
  rw [Bool.and_eq_true, decide_eq_true_eq, decide_eq_true_eq] at h
  exact Int32.toInt_ofInt_of_le (by omega) (by omega)
theorem yi_ofN32 (v : Nat) : (Int32.ofNat v).toInt = yi_w v := by
  rw [Int32.toInt_ofNat']
  exact yi_wb v
theorem yi_ofN64 (v : Nat) : (Int64.ofNat v).toInt = yi_W v := by
  rw [Int64.toInt_ofNat']
  exact yi_Wb v
section YS
variable {pc n : Nat} {al : List (Nat × yi_V)} {zal : List (Nat × zi_V)} {st : List yi_V} {zst : List zi_V} {H : yi_H} {A : List zi_C} {nc ns : Nat}
set_option maxHeartbeats 4000000 in
theorem yi_do_ok (h : yi_B al zal st zst H A) {yc : yi_K} {zc : zi_K} (hc : yi_cs yc zc) {sl : List Int} {zsl : List zi_V} (hl : zi_F2 (fun z v => yi_vr (.inl z) v) sl zsl) (hsm : sl.length ≤ 1000000) (nL : Nat) (ret : Option FieldType) (i : Instr) (o : List Nat) : yi_or (yi_do yc sl nL ret pc al st H nc ns i n o) (zi_do zc zsl nL ret pc zal zst A nc ns i n o) := by
  cases i with
  | iconst k =>
    show yi_or (bif decide (-128 ≤ k) && decide (k < 128) then yi_ps pc n al st H nc ns (.inl k) else none) _
    cases hk : (decide (-128 ≤ k) && decide (k < 128)) with
    | false => trivial
    | true => exact yi_ps_ok h ⟨_, rfl, yi_ofI32 hk⟩
  | bipush k =>
    show yi_or (bif decide (-128 ≤ k) && decide (k < 128) then yi_ps pc n al st H nc ns (.inl k) else none) _
    cases hk : (decide (-128 ≤ k) && decide (k < 128)) with
    | false => trivial
    | true => exact yi_ps_ok h ⟨_, rfl, yi_ofI8 hk⟩
  | sipush k =>
    show yi_or (bif decide (-32768 ≤ k) && decide (k < 32768) then yi_ps pc n al st H nc ns (.inl k) else none) _
    cases hk : (decide (-32768 ≤ k) && decide (k < 32768)) with
    | false => trivial
    | true => exact yi_ps_ok h ⟨_, rfl, yi_ofI16 hk⟩
  | lconst k => exact yi_ps_ok h ⟨_, rfl, by
      have := k.isLt
      rcases (show k.val = 0 ∨ k.val = 1 by omega) with z | z <;> rw [z] <;> rfl⟩
  | aconst_null => exact yi_ps_ok h rfl
  | ldc k =>
    match o with
    | 0 :: v :: _ => exact yi_ps_ok h ⟨_, rfl, yi_ofN32 v⟩
    | 1 :: r :: _ => exact yi_ps_ok h rfl
    | [] => trivial
    | [0] => trivial
    | [1] => trivial
    | (_ + 2) :: _ => trivial
  | ldc_w k =>
    match o with
    | 0 :: v :: _ => exact yi_ps_ok h ⟨_, rfl, yi_ofN32 v⟩
    | [] => trivial
    | [0] => trivial
    | (_ + 1) :: _ => trivial
  | ldc2_w k =>
    match o with
    | v :: _ => exact yi_ps_ok h ⟨_, rfl, yi_ofN64 v⟩
    | [] => trivial
  | iload k => exact yi_ld_ok h k 0
  | iload_n k => exact yi_ld_ok h k.val 0
  | lload k => exact yi_ld_ok h k 1
  | lload_n k => exact yi_ld_ok h k.val 1
  | aload k => exact yi_lda_ok h k
  | aload_n k => exact yi_lda_ok h k.val
  | istore k => exact yi_sti_ok h nL k
  | istore_n k => exact yi_sti_ok h nL k.val
  | lstore k => exact yi_stl_ok h nL k
  | lstore_n k => exact yi_stl_ok h nL k.val
  | astore k => exact yi_sta_ok h nL k
  | astore_n k => exact yi_sta_ok h nL k.val
  | iinc k d => exact yi_inc_ok h nL k d
  | iadd => exact yi_ii_ok (fun x y => by rw [Int32.toInt_add, yi_wb]) h
  | isub => exact yi_ii_ok (fun x y => by rw [Int32.toInt_sub, yi_wb]) h
  | imul => exact yi_ii_ok (fun x y => by rw [Int32.toInt_mul, yi_wb]) h
  | iand => exact yi_ii_ok (fun x y => by unfold yi_iand; rw [Int32.ofInt_toInt, Int32.ofInt_toInt]) h
  | ior => exact yi_ii_ok (fun x y => by unfold yi_ior; rw [Int32.ofInt_toInt, Int32.ofInt_toInt]) h
  | ixor => exact yi_ii_ok (fun x y => by unfold yi_ixor; rw [Int32.ofInt_toInt, Int32.ofInt_toInt]) h
  | ishl => exact yi_ii_ok (fun x y => by unfold yi_shl; rw [Int32.ofInt_toInt, Int32.ofInt_toInt]) h
  | ishr => exact yi_ii_ok (fun x y => by unfold yi_shr; rw [Int32.ofInt_toInt, Int32.ofInt_toInt]) h
  | iushr => exact yi_ii_ok (fun x y => by unfold yi_ushr; rw [Int32.ofInt_toInt, Int32.ofInt_toInt]) h
  | idiv => exact yi_iz_ok (fun x y => by rw [Int32.toInt_div, yi_wb]) h
  | irem => exact yi_iz_ok (fun x y => yi_rem32 x y) h
  | ladd => exact yi_ll_ok (fun x y => by rw [Int64.toInt_add, yi_Wb]) h
  | lsub => exact yi_ll_ok (fun x y => by rw [Int64.toInt_sub, yi_Wb]) h
  | lmul => exact yi_ll_ok (fun x y => by rw [Int64.toInt_mul, yi_Wb]) h
  | ldiv => exact yi_lz_ok (fun x y => by rw [Int64.toInt_div, yi_Wb]) h
  | lrem => exact yi_lz_ok (fun x y => yi_rem64 x y) h
  | land => exact yi_ll_ok (fun x y => by unfold yi_land; rw [Int64.ofInt_toInt, Int64.ofInt_toInt]) h
  | lor => exact yi_ll_ok (fun x y => by unfold yi_lor; rw [Int64.ofInt_toInt, Int64.ofInt_toInt]) h
  | lxor => exact yi_ll_ok (fun x y => by unfold yi_lxor; rw [Int64.ofInt_toInt, Int64.ofInt_toInt]) h
  | lcmp => exact yi_lc_ok h
  | lshl => exact yi_lw_ok (fun x y => by unfold yi_lshl; rw [Int64.ofInt_toInt, Int32.ofInt_toInt]) h
  | lshr => exact yi_lw_ok (fun x y => by unfold yi_lshr; rw [Int64.ofInt_toInt, Int32.ofInt_toInt]) h
  | lushr => exact yi_lw_ok (fun x y => by unfold yi_lushr; rw [Int64.ofInt_toInt, Int32.ofInt_toInt]) h
  | ineg => exact yi_i1_ok (fun x => ⟨_, rfl, by rw [Int32.toInt_neg, yi_wb]⟩) h
  | i2l => exact yi_i1_ok (fun x => ⟨_, rfl, Int32.toInt_toInt64 x⟩) h
  | i2b => exact yi_i1_ok (fun x => ⟨_, rfl, yi_i2b x⟩) h
  | i2c => exact yi_i1_ok (fun x => ⟨_, rfl, yi_i2c x⟩) h
  | l2i => exact yi_l1_ok (fun x => ⟨_, rfl, by rw [Int64.toInt_toInt32, yi_wb]⟩) h
  | lneg => exact yi_l1_ok (fun x => ⟨_, rfl, by rw [Int64.toInt_neg, yi_Wb]⟩) h
  | dup => exact yi_dup_ok h
  | pop => exact yi_pop_ok h
  | dup2 => exact yi_dup2_ok h
  | ifCond c off =>
    match o with
    | t :: _ => exact yi_if1_ok h c t
    | [] => trivial
  | if_icmp c off =>
    match o with
    | t :: _ => exact yi_if2_ok h c t
    | [] => trivial
  | goto off =>
    match o with
    | t :: _ => exact yi_mk h.1 h.2.1 h.2.2
    | [] => trivial
  | ifnull off =>
    match o with
    | t :: _ => exact yi_nul_ok h true t
    | [] => trivial
  | ifnonnull off =>
    match o with
    | t :: _ => exact yi_nul_ok h false t
    | [] => trivial
  | tableswitch d lo hi offs => exact yi_tsw_ok h lo hi o
  | lookupswitch d ps => exact yi_lsw_ok h d ps.toList
  | getfield k =>
    match o with
    | ci :: k :: _ => exact yi_get_ok h ci k
    | [] => trivial
    | [_] => trivial
  | putfield k =>
    match o with
    | ci :: k :: _ => exact yi_put_ok h ci k
    | [] => trivial
    | [_] => trivial
  | getstatic k =>
    match o with
    | 0 :: _ => exact yi_mk h.1 ⟨⟨1, rfl, rfl⟩, h.2.1⟩ h.2.2
    | (_ + 1) :: _ => trivial
    | [] => trivial
  | arraylength => exact yi_len_ok h (zi_F2_len hl) hsm
  | iaload => exact yi_ald_ok h 0 hl
  | laload => exact yi_ald_ok h 1 hl
  | baload => exact yi_ald_ok h 2 hl
  | caload => exact yi_ald_ok h 3 hl
  | aaload => exact yi_ald_ok h 7 hl
  | iastore => exact yi_ast_ok h 0
  | lastore => exact yi_ast_ok h 1
  | bastore => exact yi_ast_ok h 2
  | castore => exact yi_ast_ok h 3
  | aastore => exact yi_aas_ok h
  | new k =>
    match o with
    | ci :: _ => exact yi_nwo_ok h ci
    | [] => trivial
  | newarray k =>
    match o with
    | t :: _ => exact yi_nwa_ok h t
    | [] => trivial
  | anewarray k =>
    match o with
    | t :: _ => exact yi_nwa_ok h t
    | [] => trivial
  | invokestatic k =>
    match o with
    | [] => trivial
    | [z] =>
      show yi_or (bif Nat.ble (yi_cats st) 10 then yi_mm pc n al st H nc ns z else none) (bif Nat.ble (zi_cats zst) 10 then zi_mm z pc n zal zst A nc ns else none)
      rw [yi_cats_ok h.2.1]
      cases Nat.ble (yi_cats st) 10 with
      | true => exact yi_mm_ok h z
      | false => trivial
    | mi :: k :: _ => exact yi_inv_ok h hc mi k
  | invokespecial k =>
    match o with
    | [] => exact yi_obj_ok h
    | [_] => trivial
    | mi :: k :: _ =>
      show yi_or (match st[k - 1]? with | some (.inr (.inr (some _))) => bif Nat.ble 1 k then yi_inv pc n al st H nc ns yc mi k else none | _ => none) (match zst[k - 1]? with | some (.inl (.ref _)) => bif Nat.ble 1 k then zi_inv zc pc n zal zst A nc ns mi k else none | _ => none)
      split
      · rename_i q hq
        obtain ⟨w, e1, e2⟩ := zi_F2_get h.2.1 hq
        have e2 : w = .inl (.ref q) := e2
        subst e2
        rw [e1]
        dsimp only
        cases Nat.ble 1 k with
        | true => exact yi_inv_ok h hc mi k
        | false => trivial
      · trivial
  | invokevirtual k =>
    match o with
    | [] => trivial
    | [_] => trivial
    | [_, _] => trivial
    | mi :: k :: ci :: _ =>
      show yi_or (bif Nat.ble 1 k && yi_rcv H ci st[k - 1]? then yi_inv pc n al st H nc ns yc mi k else none) (bif Nat.ble 1 k && zi_rcv A ci zst[k - 1]? then zi_inv zc pc n zal zst A nc ns mi k else none)
      cases hk : (Nat.ble 1 k && yi_rcv H ci st[k - 1]?) with
      | false => trivial
      | true =>
        rw [Bool.and_eq_true] at hk
        rw [hk.1, yi_rcv_ok (A := A) (w := zst[k - 1]?) h.2.2 (fun a ha => zi_F2_get h.2.1 ha) hk.2]
        exact yi_inv_ok h hc mi k
  | ireturn => exact yi_ret_ok h.2.1 0 ret
  | lreturn => exact yi_ret_ok h.2.1 1 ret
  | areturn => exact yi_ret_ok h.2.1 2 ret
  | return_ => exact yi_rtv_ok h.2.1 ret
  | _ => trivial
theorem yi_stp_ok {Y : yi_F} {f : zi_F} (h : yi_fr Y f) {yc : yi_K} {zc : zi_K} (hc : yi_cs yc zc) {sl : List Int} {zsl : List zi_V} (hl : zi_F2 (fun z v => yi_vr (.inl z) v) sl zsl) (hsm : sl.length ≤ 1000000) (M : zi_M) : yi_or (yi_stp yc sl M Y) (zi_stp zc zsl M f) := by
  obtain ⟨pc, al, st, H, nc, ns⟩ := Y
  obtain ⟨zpc, zal, zst, A, znc, zns⟩ := f
  obtain ⟨h1, h2, h3, h4, h5, h6⟩ := h
  have h1 : pc = zpc := h1
  have h5 : nc = znc := h5
  have h6 : ns = zns := h6
  subst h1 h5 h6
  unfold yi_stp zi_stp
  dsimp only
  cases hq : zi_lk2 pc M.2.2.2.2.1 with
  | none => trivial
  | some e =>
    dsimp only
    have hd := yi_do_ok (pc := pc) (n := e.2.1) (nc := nc) (ns := ns) ⟨h2, h3, h4⟩ hc hl hsm M.2.2.1 M.2.2.2.1 e.1 e.2.2
    cases hy : yi_do yc sl M.2.2.1 M.2.2.2.1 pc al st H nc ns e.1 e.2.1 e.2.2 with
    | none => trivial
    | some q =>
      rw [hy] at hd
      cases q with
      | inl g =>
        obtain ⟨zg, e1, e2⟩ := hd
        rw [e1]
        exact ⟨zg, rfl, e2⟩
      | inr v =>
        obtain ⟨w, e1, e2⟩ := hd
        rw [e1]
        dsimp only
        cases zi_isr e.1 with
        | true => exact ⟨w, rfl, e2⟩
        | false => trivial
end YS
theorem yi_loop_ok {yc : yi_K} {zc : zi_K} (hc : yi_cs yc zc) (M : zi_M) : ∀ (n : Nat) {Y : yi_F} {f : zi_F} {r : yi_R}, yi_fr Y f → yi_loop yc M n Y = some r → ∃ zr, zi_loop zc M n f = some zr ∧ yi_rr r zr
  | 0, Y, f, r, _, h => by cases h
  | n + 1, Y, f, r, hf, h => by
    have h : (match yi_stp yc [] M Y with | some (.inl g) => bif yi_up Y g then yi_loop yc M n g else none | some (.inr v) => some (v, Y.2.2.2.1, Y.2.2.2.2.1, Y.2.2.2.2.2) | none => none) = some r := h
    have hs := yi_stp_ok hf hc (sl := []) (zsl := []) trivial (Nat.zero_le _) M
    show ∃ zr, (match zi_stp zc [] M f with | some (.inl g) => bif zi_up f g then zi_loop zc M n g else none | some (.inr v) => some (v, f.2.2.2.1, f.2.2.2.2.1, f.2.2.2.2.2) | none => none) = some zr ∧ yi_rr r zr
    cases hy : yi_stp yc [] M Y with
    | none => rw [hy] at h; cases h
    | some q =>
      rw [hy] at h hs
      cases q with
      | inl g =>
        obtain ⟨zg, e1, e2⟩ := hs
        rw [e1]
        dsimp only at h ⊢
        have hu : zi_up f zg = yi_up Y g := by
          unfold zi_up yi_up
          obtain ⟨-, -, -, -, a1, a2⟩ := hf
          obtain ⟨-, -, -, -, b1, b2⟩ := e2
          rw [a1, a2, b1, b2]
        rw [hu]
        cases hv : yi_up Y g with
        | false => rw [hv] at h; cases h
        | true =>
          rw [hv] at h
          exact yi_loop_ok hc M n e2 h
      | inr v =>
        obtain ⟨w, e1, e2⟩ := hs
        rw [e1]
        cases h
        obtain ⟨-, -, -, a4, a5, a6⟩ := hf
        exact ⟨_, rfl, e2, a4, a5, a6⟩
theorem yi_ev_ok (Ms : List zi_M) (n : Nat) : ∀ d : Nat, yi_cs (yi_ev Ms n d) (zi_ev Ms n d)
  | 0 => fun mi vs H r h => by cases h
  | d + 1 => fun mi vs H r h zvs A hv hH => by
    have ih := yi_ev_ok Ms n d
    have h : (match Ms[mi]? with | some M => bif Nat.ble (yi_cats vs) M.2.2.1 then yi_loop (yi_ev Ms n d) M n (0, yi_ent 0 vs, [], H, 0, 0) else none | none => none) = some r := h
    show ∃ zr, (match Ms[mi]? with | some M => bif Nat.ble (zi_cats zvs) M.2.2.1 then zi_loop (zi_ev Ms n d) M n (0, zi_ent 0 zvs, [], A, 0, 0) else none | none => none) = some zr ∧ yi_rr r zr
    cases hM : Ms[mi]? with
    | none => rw [hM] at h; cases h
    | some M =>
      rw [hM] at h
      dsimp only at h ⊢
      rw [yi_cats_ok hv]
      cases hb : Nat.ble (yi_cats vs) M.2.2.1 with
      | false => rw [hb] at h; cases h
      | true =>
        rw [hb] at h
        exact yi_loop_ok ih M n (Y := (0, yi_ent 0 vs, [], H, 0, 0)) (f := (0, zi_ent 0 zvs, [], A, 0, 0)) ⟨rfl, yi_ent_ok hv 0, trivial, hH, rfl, rfl⟩ h
