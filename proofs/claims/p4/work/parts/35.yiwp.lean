/-! What a frame comes to, goal first. -/
def yi_mo (o : yi_O) (nc ns : Nat) : Prop := match o with
  | some (.inl g) => nc ≤ g.2.2.2.2.1 ∧ ns ≤ g.2.2.2.2.2
  | _ => True
section YM
variable {pc n : Nat} {al : List (Nat × yi_V)} {st : List yi_V} {H : yi_H} {nc ns : Nat}
theorem yi_mo_r {pc' : Nat} {al' : List (Nat × yi_V)} {st' : List yi_V} {H' : yi_H} : yi_mo (some (.inl (pc', al', st', H', nc, ns))) nc ns := ⟨Nat.le_refl _, Nat.le_refl _⟩
theorem yi_mo_b {c : Bool} {a b : yi_O} (h1 : yi_mo a nc ns) (h2 : yi_mo b nc ns) : yi_mo (bif c then a else b) nc ns := by
  cases c with
  | true => exact h1
  | false => exact h2
theorem yi_mo_inv {call : yi_K} {mi k : Nat} : yi_mo (yi_inv pc n al st H nc ns call mi k) nc ns := by
  unfold yi_inv
  refine yi_mo_b ?_ trivial
  split
  · split
    · exact ⟨Nat.le_add_right _ _, Nat.le_add_right _ _⟩
    · exact ⟨Nat.le_add_right _ _, Nat.le_add_right _ _⟩
  · trivial
theorem yi_mo_get {ci k : Nat} : yi_mo (yi_get pc n al st H nc ns ci k) nc ns := by
  unfold yi_get
  split
  · exact yi_mo_b (yi_mo_b yi_mo_r trivial) (yi_mo_b (yi_mo_b yi_mo_r (yi_mo_b yi_mo_r trivial)) trivial)
  · trivial
theorem yi_mo_len {sl : List Int} : yi_mo (yi_len pc n al st H nc ns sl) nc ns := by
  unfold yi_len
  split
  · refine yi_mo_b (yi_mo_b yi_mo_r trivial) (yi_mo_b ?_ (yi_mo_b yi_mo_r trivial))
    split
    · trivial
    · exact yi_mo_r
  · trivial
theorem yi_mo_ald {t : Nat} {sl : List Int} : yi_mo (yi_ald pc n al st H nc ns t sl) nc ns := by
  unfold yi_ald
  split
  · exact yi_mo_b (yi_mo_b yi_mo_r trivial) (yi_mo_b yi_mo_r (yi_mo_b yi_mo_r trivial))
  · trivial
theorem yi_mo_ret {k : Nat} {ret : Option FieldType} : yi_mo (yi_ret k ret st) nc ns := by
  unfold yi_ret
  split
  · exact yi_mo_b trivial trivial
  · trivial
theorem yi_mo_ld {i k : Nat} : yi_mo (yi_ld pc n al st H nc ns i k) nc ns := by
  unfold yi_ld
  split
  · exact yi_mo_b yi_mo_r trivial
  · trivial
theorem yi_mo_lda {i : Nat} : yi_mo (yi_lda pc n al st H nc ns i) nc ns := by
  unfold yi_lda
  split
  · exact yi_mo_b yi_mo_r trivial
  · trivial
theorem yi_mo_sti {nL i : Nat} : yi_mo (yi_sti pc n al st H nc ns nL i) nc ns := by
  unfold yi_sti
  split
  · exact yi_mo_b yi_mo_r trivial
  · trivial
theorem yi_mo_sta {nL i : Nat} : yi_mo (yi_sta pc n al st H nc ns nL i) nc ns := by
  unfold yi_sta
  split
  · exact yi_mo_b yi_mo_r trivial
  · trivial
theorem yi_mo_stl {nL i : Nat} : yi_mo (yi_stl pc n al st H nc ns nL i) nc ns := by
  unfold yi_stl
  split
  · exact yi_mo_b yi_mo_r trivial
  · trivial
theorem yi_mo_inc {nL i : Nat} {k : Int} : yi_mo (yi_inc pc n al st H nc ns nL i k) nc ns := by
  unfold yi_inc
  split
  · exact yi_mo_b yi_mo_r trivial
  · trivial
theorem yi_mo_ii {op : Int → Int → Int} : yi_mo (yi_ii pc n al st H nc ns op) nc ns := by
  unfold yi_ii
  split
  · exact yi_mo_r
  · trivial
theorem yi_mo_iz {op : Int → Int → Int} : yi_mo (yi_iz pc n al st H nc ns op) nc ns := by
  unfold yi_iz
  split
  · exact yi_mo_b trivial yi_mo_r
  · trivial
theorem yi_mo_ll {op : Int → Int → Int} : yi_mo (yi_ll pc n al st H nc ns op) nc ns := by
  unfold yi_ll
  split
  · exact yi_mo_r
  · trivial
theorem yi_mo_lz {op : Int → Int → Int} : yi_mo (yi_lz pc n al st H nc ns op) nc ns := by
  unfold yi_lz
  split
  · exact yi_mo_b trivial yi_mo_r
  · trivial
theorem yi_mo_lc : yi_mo (yi_lc pc n al st H nc ns) nc ns := by
  unfold yi_lc
  split
  · exact yi_mo_r
  · trivial
theorem yi_mo_lw {op : Int → Int → Int} : yi_mo (yi_lw pc n al st H nc ns op) nc ns := by
  unfold yi_lw
  split
  · exact yi_mo_r
  · trivial
theorem yi_mo_i1 {op : Int → yi_V} : yi_mo (yi_i1 pc n al st H nc ns op) nc ns := by
  unfold yi_i1
  split
  · exact yi_mo_r
  · trivial
theorem yi_mo_l1 {op : Int → yi_V} : yi_mo (yi_l1 pc n al st H nc ns op) nc ns := by
  unfold yi_l1
  split
  · exact yi_mo_r
  · trivial
theorem yi_mo_dup : yi_mo (yi_dup pc n al st H nc ns) nc ns := by
  unfold yi_dup
  split
  · exact yi_mo_b yi_mo_r trivial
  · trivial
theorem yi_mo_pop : yi_mo (yi_pop pc n al st H nc ns) nc ns := by
  unfold yi_pop
  split
  · exact yi_mo_b yi_mo_r trivial
  · trivial
theorem yi_mo_dup2 : yi_mo (yi_dup2 pc n al st H nc ns) nc ns := by
  unfold yi_dup2
  split
  · exact yi_mo_b yi_mo_r (yi_mo_b yi_mo_r trivial)
  · trivial
theorem yi_mo_if1 {c : ClassFile.Cond} {t : Nat} : yi_mo (yi_if1 pc n al st H nc ns c t) nc ns := by
  unfold yi_if1
  split
  · exact yi_mo_r
  · trivial
theorem yi_mo_if2 {c : ClassFile.Cond} {t : Nat} : yi_mo (yi_if2 pc n al st H nc ns c t) nc ns := by
  unfold yi_if2
  split
  · exact yi_mo_r
  · trivial
theorem yi_mo_nul {k : Bool} {t : Nat} : yi_mo (yi_nul pc n al st H nc ns k t) nc ns := by
  unfold yi_nul
  split
  · exact yi_mo_r
  · exact yi_mo_r
  · trivial
theorem yi_mo_tsw {lo hi : Int} {o : List Nat} : yi_mo (yi_tsw al st H nc ns lo hi o) nc ns := by
  unfold yi_tsw
  split
  · refine yi_mo_b yi_mo_r ?_
    split
    · exact yi_mo_r
    · trivial
  · trivial
theorem yi_mo_lsw {d : Int} {ps : List (Int × Int)} : yi_mo (yi_lsw pc al st H nc ns d ps) nc ns := by
  unfold yi_lsw
  split
  · exact yi_mo_b yi_mo_r trivial
  · trivial
theorem yi_mo_put {ci k : Nat} : yi_mo (yi_put pc n al st H nc ns ci k) nc ns := by
  unfold yi_put
  split
  · exact yi_mo_b yi_mo_r trivial
  · trivial
theorem yi_mo_ast {t : Nat} : yi_mo (yi_ast pc n al st H nc ns t) nc ns := by
  unfold yi_ast
  split
  · exact yi_mo_b yi_mo_r trivial
  · trivial
theorem yi_mo_aas : yi_mo (yi_aas pc n al st H nc ns) nc ns := by
  unfold yi_aas
  split
  · exact yi_mo_b yi_mo_r trivial
  · trivial
theorem yi_mo_nwo {ci : Nat} : yi_mo (yi_nwo pc n al st H nc ns ci) nc ns := yi_mo_b ⟨Nat.le_add_right _ _, Nat.le_add_right _ _⟩ trivial
theorem yi_mo_nwa {t : Nat} : yi_mo (yi_nwa pc n al st H nc ns t) nc ns := by
  unfold yi_nwa
  split
  · exact yi_mo_b ⟨Nat.le_add_right _ _, Nat.le_add_right _ _⟩ trivial
  · trivial
theorem yi_mo_mm {z : Nat} : yi_mo (yi_mm pc n al st H nc ns z) nc ns := by
  unfold yi_mm
  split
  · exact yi_mo_r
  · trivial
theorem yi_mo_obj : yi_mo (yi_obj pc n al st H nc ns) nc ns := by
  unfold yi_obj
  split
  · exact yi_mo_b yi_mo_r trivial
  · trivial
set_option maxHeartbeats 4000000 in
theorem yi_do_mo {call : yi_K} {sl : List Int} {nL : Nat} {ret : Option FieldType} (i : Instr) (o : List Nat) : yi_mo (yi_do call sl nL ret pc al st H nc ns i n o) nc ns := by
  cases i with
  | iconst k => exact yi_mo_b yi_mo_r trivial
  | bipush k => exact yi_mo_b yi_mo_r trivial
  | sipush k => exact yi_mo_b yi_mo_r trivial
  | lconst k => exact yi_mo_r
  | aconst_null => exact yi_mo_r
  | ldc k =>
    match o with
    | 0 :: v :: _ => exact yi_mo_r
    | 1 :: r :: _ => exact yi_mo_r
    | [] => trivial
    | [0] => trivial
    | [1] => trivial
    | (_ + 2) :: _ => trivial
  | ldc_w k =>
    match o with
    | 0 :: v :: _ => exact yi_mo_r
    | [] => trivial
    | [0] => trivial
    | (_ + 1) :: _ => trivial
  | ldc2_w k =>
    match o with
    | v :: _ => exact yi_mo_r
    | [] => trivial
  | iload k => exact yi_mo_ld
  | iload_n k => exact yi_mo_ld
  | lload k => exact yi_mo_ld
  | lload_n k => exact yi_mo_ld
  | aload k => exact yi_mo_lda
  | aload_n k => exact yi_mo_lda
  | istore k => exact yi_mo_sti
  | istore_n k => exact yi_mo_sti
  | lstore k => exact yi_mo_stl
  | lstore_n k => exact yi_mo_stl
  | astore k => exact yi_mo_sta
  | astore_n k => exact yi_mo_sta
  | iinc k d => exact yi_mo_inc
  | iadd => exact yi_mo_ii
  | isub => exact yi_mo_ii
  | imul => exact yi_mo_ii
  | iand => exact yi_mo_ii
  | ior => exact yi_mo_ii
  | ixor => exact yi_mo_ii
  | ishl => exact yi_mo_ii
  | ishr => exact yi_mo_ii
  | iushr => exact yi_mo_ii
  | idiv => exact yi_mo_iz
  | irem => exact yi_mo_iz
  | ladd => exact yi_mo_ll
  | lsub => exact yi_mo_ll
  | lmul => exact yi_mo_ll
  | ldiv => exact yi_mo_lz
  | lrem => exact yi_mo_lz
  | land => exact yi_mo_ll
  | lor => exact yi_mo_ll
  | lxor => exact yi_mo_ll
  | lcmp => exact yi_mo_lc
  | lshl => exact yi_mo_lw
  | lshr => exact yi_mo_lw
  | lushr => exact yi_mo_lw
  | ineg => exact yi_mo_i1
  | i2l => exact yi_mo_i1
  | i2b => exact yi_mo_i1
  | i2c => exact yi_mo_i1
  | l2i => exact yi_mo_l1
  | lneg => exact yi_mo_l1
  | dup => exact yi_mo_dup
  | pop => exact yi_mo_pop
  | dup2 => exact yi_mo_dup2
  | ifCond c off =>
    match o with
    | t :: _ => exact yi_mo_if1
    | [] => trivial
  | if_icmp c off =>
    match o with
    | t :: _ => exact yi_mo_if2
    | [] => trivial
  | goto off =>
    match o with
    | t :: _ => exact yi_mo_r
    | [] => trivial
  | ifnull off =>
    match o with
    | t :: _ => exact yi_mo_nul
    | [] => trivial
  | ifnonnull off =>
    match o with
    | t :: _ => exact yi_mo_nul
    | [] => trivial
  | tableswitch d lo hi offs => exact yi_mo_tsw
  | lookupswitch d ps => exact yi_mo_lsw
  | getfield k =>
    match o with
    | ci :: k :: _ => exact yi_mo_get
    | [] => trivial
    | [_] => trivial
  | putfield k =>
    match o with
    | ci :: k :: _ => exact yi_mo_put
    | [] => trivial
    | [_] => trivial
  | getstatic k =>
    match o with
    | 0 :: _ => exact yi_mo_r
    | (_ + 1) :: _ => trivial
    | [] => trivial
  | arraylength => exact yi_mo_len
  | iaload => exact yi_mo_ald
  | laload => exact yi_mo_ald
  | baload => exact yi_mo_ald
  | caload => exact yi_mo_ald
  | aaload => exact yi_mo_ald
  | iastore => exact yi_mo_ast
  | lastore => exact yi_mo_ast
  | bastore => exact yi_mo_ast
  | castore => exact yi_mo_ast
  | aastore => exact yi_mo_aas
  | new k =>
    match o with
    | ci :: _ => exact yi_mo_nwo
    | [] => trivial
  | newarray k =>
    match o with
    | t :: _ => exact yi_mo_nwa
    | [] => trivial
  | anewarray k =>
    match o with
    | t :: _ => exact yi_mo_nwa
    | [] => trivial
  | invokestatic k =>
    match o with
    | [] => trivial
    | [z] => exact yi_mo_b yi_mo_mm trivial
    | mi :: k :: _ => exact yi_mo_inv
  | invokespecial k =>
    match o with
    | [] => exact yi_mo_obj
    | [_] => trivial
    | mi :: k :: _ =>
      show yi_mo (match st[k - 1]? with | some (.inr (.inr (some _))) => bif Nat.ble 1 k then yi_inv pc n al st H nc ns call mi k else none | _ => none) nc ns
      split
      · exact yi_mo_b yi_mo_inv trivial
      · trivial
  | invokevirtual k =>
    match o with
    | [] => trivial
    | [_] => trivial
    | [_, _] => trivial
    | mi :: k :: ci :: _ => exact yi_mo_b yi_mo_inv trivial
  | ireturn => exact yi_mo_ret (k := 0) (ret := ret) (st := st)
  | lreturn => exact yi_mo_ret (k := 1) (ret := ret) (st := st)
  | areturn => exact yi_mo_ret (k := 2) (ret := ret) (st := st)
  | return_ =>
    show yi_mo (yi_rtv ret st) nc ns
    unfold yi_rtv
    split <;> trivial
  | _ => trivial
end YM
theorem yi_stp_up {call : yi_K} {sl : List Int} {M : zi_M} {f g : yi_F} (h : yi_stp call sl M f = some (.inl g)) : yi_up f g = true := by
  unfold yi_stp at h
  cases hq : zi_lk2 f.1 M.2.2.2.2.1 with
  | none => rw [hq] at h; cases h
  | some e =>
    rw [hq] at h
    dsimp only at h
    have hd := yi_do_mo (pc := f.1) (n := e.2.1) (al := f.2.1) (st := f.2.2.1) (H := f.2.2.2.1) (nc := f.2.2.2.2.1) (ns := f.2.2.2.2.2) (call := call) (sl := sl) (nL := M.2.2.1) (ret := M.2.2.2.1) e.1 e.2.2
    cases hy : yi_do call sl M.2.2.1 M.2.2.2.1 f.1 f.2.1 f.2.2.1 f.2.2.2.1 f.2.2.2.2.1 f.2.2.2.2.2 e.1 e.2.1 e.2.2 with
    | none => rw [hy] at h; cases h
    | some q =>
      rw [hy] at h hd
      cases q with
      | inl g' =>
        cases h
        unfold yi_up
        rw [Nat.ble_eq_true_of_le hd.1, Nat.ble_eq_true_of_le hd.2]
        rfl
      | inr v =>
        dsimp only at h
        cases hi : zi_isr e.1 with
        | true => rw [hi] at h; cases h
        | false => rw [hi] at h; cases h
def yi_E (Ms : List zi_M) (d mi : Nat) (vs : List yi_V) (H : yi_H) (Q : yi_R → Prop) : Prop := ∃ r, Q r ∧ ∃ n0, ∀ n, n0 ≤ n → yi_ev Ms n d mi vs H = some r
def yi_G (Ms : List zi_M) (d : Nat) (M : zi_M) (f : yi_F) (Q : yi_R → Prop) : Prop := ∃ r, Q r ∧ ∃ n0, ∀ n k, n0 ≤ n → n0 ≤ k → yi_loop (yi_ev Ms n d) M k f = some r
theorem yi_E.imp {Ms : List zi_M} {d mi : Nat} {vs : List yi_V} {H : yi_H} {Q Q' : yi_R → Prop} (h : yi_E Ms d mi vs H Q) (hq : ∀ r, Q r → Q' r) : yi_E Ms d mi vs H Q' := by
  obtain ⟨r, h1, h2⟩ := h
  exact ⟨r, hq r h1, h2⟩
theorem yi_E_of {Ms : List zi_M} {d mi : Nat} {vs : List yi_V} {H : yi_H} {Q : yi_R → Prop} {M : zi_M} (hM : Ms[mi]? = some M) (hc : Nat.ble (yi_cats vs) M.2.2.1 = true) (h : yi_G Ms d M (0, yi_ent 0 vs, [], H, 0, 0) Q) : yi_E Ms (d + 1) mi vs H Q := by
  obtain ⟨r, h1, n0, h2⟩ := h
  refine ⟨r, h1, n0, fun n hn => ?_⟩
  show (match Ms[mi]? with | some M => bif Nat.ble (yi_cats vs) M.2.2.1 then yi_loop (yi_ev Ms n d) M n (0, yi_ent 0 vs, [], H, 0, 0) else none | none => none) = some r
  rw [hM]
  dsimp only
  rw [hc]
  exact h2 n n hn hn
/-- so many instructions that call nothing -/
noncomputable def yi_run (call : yi_K) (M : zi_M) (k : Nat) (f : yi_F) : Option yi_F := Nat.rec (motive := fun _ => yi_F → Option yi_F) (fun f => some f) (fun _ ih f => match yi_stp call [] M f with
  | some (.inl g) => ih g
  | _ => none) k f
theorem yi_run_loop {call : yi_K} {M : zi_M} {r : yi_R} : ∀ (j k : Nat) {f g : yi_F}, yi_run call M j f = some g → yi_loop call M k g = some r → yi_loop call M (k + j) f = some r
  | 0, k, f, g, h, hl => by
    have h : some f = some g := h
    cases h
    exact hl
  | j + 1, k, f, g, h, hl => by
    have h : (match yi_stp call [] M f with | some (.inl g) => yi_run call M j g | _ => none) = some g := h
    show (match yi_stp call [] M f with | some (.inl g) => bif yi_up f g then yi_loop call M (k + j) g else none | some (.inr v) => some (v, f.2.2.2.1, f.2.2.2.2.1, f.2.2.2.2.2) | none => none) = some r
    cases hs : yi_stp call [] M f with
    | none => rw [hs] at h; cases h
    | some q =>
      rw [hs] at h
      cases q with
      | inr v => cases h
      | inl x =>
        dsimp only at h ⊢
        rw [yi_stp_up hs]
        exact yi_run_loop j k h hl
section YG
variable {Ms : List zi_M} {d : Nat} {M : zi_M} {Q : yi_R → Prop} {pc n : Nat} {al : List (Nat × yi_V)} {st : List yi_V} {H : yi_H} {nc ns : Nat}
theorem yi_G_run (j : Nat) {f : yi_F} (g : yi_F) (h : ∀ call, yi_run call M j f = some g) (hg : yi_G Ms d M g Q) : yi_G Ms d M f Q := by
  obtain ⟨r, h1, n0, h2⟩ := hg
  refine ⟨r, h1, n0 + j, fun n k hn hk => ?_⟩
  have e : k = (k - j) + j := by omega
  rw [e]
  exact yi_run_loop j (k - j) (h _) (h2 n (k - j) (by omega) (by omega))
theorem yi_stp_of {call : yi_K} {i : Instr} {o : List Nat} {g : yi_F} (h1 : zi_lk2 pc M.2.2.2.2.1 = some (i, n, o)) (h2 : yi_do call [] M.2.2.1 M.2.2.2.1 pc al st H nc ns i n o = some (.inl g)) : yi_stp call [] M (pc, al, st, H, nc, ns) = some (.inl g) := by
  unfold yi_stp
  simp only [h1, h2]
theorem yi_G_s {i : Instr} {o : List Nat} (g : yi_F) (h1 : zi_lk2 pc M.2.2.2.2.1 = some (i, n, o)) (h2 : ∀ call, yi_do call [] M.2.2.1 M.2.2.2.1 pc al st H nc ns i n o = some (.inl g)) (hg : yi_G Ms d M g Q) : yi_G Ms d M (pc, al, st, H, nc, ns) Q := by
  refine yi_G_run 1 g (fun call => ?_) hg
  show (match yi_stp call [] M (pc, al, st, H, nc, ns) with | some (.inl g) => some g | _ => none) = some g
  rw [yi_stp_of h1 (h2 call)]
theorem yi_G_ret {i : Instr} {o : List Nat} {v : Option yi_V} (h1 : zi_lk2 pc M.2.2.2.2.1 = some (i, n, o)) (hi : zi_isr i = true) (h2 : ∀ call, yi_do call [] M.2.2.1 M.2.2.2.1 pc al st H nc ns i n o = some (.inr v)) (hq : Q (v, H, nc, ns)) : yi_G Ms d M (pc, al, st, H, nc, ns) Q := by
  refine ⟨_, hq, 1, fun n k _ hk => ?_⟩
  obtain ⟨k', rfl⟩ : ∃ k', k = k' + 1 := ⟨k - 1, by omega⟩
  have e : yi_stp (yi_ev Ms n d) [] M (pc, al, st, H, nc, ns) = some (.inr v) := by
    unfold yi_stp
    simp only [h1, h2, hi, cond_true]
  show (match yi_stp (yi_ev Ms n d) [] M (pc, al, st, H, nc, ns) with | some (.inl g) => bif yi_up (pc, al, st, H, nc, ns) g then yi_loop (yi_ev Ms n d) M k' g else none | some (.inr v) => some (v, H, nc, ns) | none => none) = some (v, H, nc, ns)
  rw [e]
/-- a call: what it gives, and how the frame goes on -/
theorem yi_G_call {i : Instr} {o : List Nat} {mi k : Nat} {Qc : yi_R → Prop} (h1 : zi_lk2 pc M.2.2.2.2.1 = some (i, n, o)) (h2 : ∀ call, yi_do call [] M.2.2.1 M.2.2.2.1 pc al st H nc ns i n o = yi_inv pc n al st H nc ns call mi k) (h3 : (Nat.ble k st.length && Nat.ble (yi_cats (st.drop k)) 8) = true) (hE : yi_E Ms d mi (st.take k).reverse H Qc)
    (hg : ∀ r, Qc r → yi_G Ms d M (pc + n, al, (match r.1 with | some v => v :: st.drop k | none => st.drop k), r.2.1, nc + r.2.2.1, ns + r.2.2.2) Q) : yi_G Ms d M (pc, al, st, H, nc, ns) Q := by
  obtain ⟨r, hr, n1, e1⟩ := hE
  obtain ⟨q, hq, n2, e2⟩ := hg r hr
  refine ⟨q, hq, n1 + n2 + 1, fun m k' hm hk => ?_⟩
  obtain ⟨k', rfl⟩ : ∃ j, k' = j + 1 := ⟨k' - 1, by omega⟩
  have e : yi_stp (yi_ev Ms m d) [] M (pc, al, st, H, nc, ns) = some (.inl (pc + n, al, (match r.1 with | some v => v :: st.drop k | none => st.drop k), r.2.1, nc + r.2.2.1, ns + r.2.2.2)) := by
    refine yi_stp_of h1 ?_
    rw [h2]
    unfold yi_inv
    rw [h3, e1 m (by omega)]
    simp only [cond_true]
    cases r.1 with
    | none => rfl
    | some v => rfl
  show (match yi_stp (yi_ev Ms m d) [] M (pc, al, st, H, nc, ns) with | some (.inl g) => bif yi_up (pc, al, st, H, nc, ns) g then yi_loop (yi_ev Ms m d) M k' g else none | some (.inr v) => some (v, H, nc, ns) | none => none) = some q
  rw [e]
  dsimp only
  rw [yi_stp_up e]
  exact e2 m k' (by omega) (by omega)
end YG
