/-! feed: both tapes take the same of the 24 bytes. First: runs joined, steps with cells that are known by their places alone. -/
theorem zi_run_tr {call : zi_K} {sl : List zi_V} {M : zi_M} {h : zi_F} : ∀ (j n : Nat) {f g : zi_F}, zi_run call sl M j f = some g → zi_run call sl M n g = some h → zi_run call sl M (n + j) f = some h
  | 0, n, f, g, h0, hl => by
    have h0 : some f = some g := h0
    cases h0
    exact hl
  | j + 1, n, f, g, h0, hl => by
    have h0 : (match zi_stp call sl M f with | some (.inl g) => bif zi_up f g then zi_run call sl M j g else none | _ => none) = some g := h0
    show (match zi_stp call sl M f with | some (.inl g) => bif zi_up f g then zi_run call sl M (n + j) g else none | _ => none) = some h
    split at h0
    · rename_i x hx
      cases hu : zi_up f x with
      | false => rw [hu] at h0; cases h0
      | true => rw [hu] at h0; exact zi_run_tr j n h0 hl
    · cases h0
theorem zi_loop_run {call : zi_K} {M : zi_M} {r : zi_R} : ∀ (j n : Nat) {f g : zi_F}, zi_run call [] M j f = some g → zi_loop call M n g = some r → zi_loop call M (n + j) f = some r
  | 0, n, f, g, h0, hl => by
    have h0 : some f = some g := h0
    cases h0
    exact hl
  | j + 1, n, f, g, h0, hl => by
    have h0 : (match zi_stp call [] M f with | some (.inl g) => bif zi_up f g then zi_run call [] M j g else none | _ => none) = some g := h0
    show (match zi_stp call [] M f with | some (.inl g) => bif zi_up f g then zi_loop call M (n + j) g else none | some (.inr v) => some (v, f.2.2.2.1, f.2.2.2.2.1, f.2.2.2.2.2) | none => none) = some r
    split at h0
    · rename_i x hx
      rw [hx]
      dsimp only
      cases hu : zi_up f x with
      | false => rw [hu] at h0; cases h0
      | true => rw [hu] at h0; exact zi_loop_run j n h0 hl
    · cases h0
theorem zi_loop_up {call : zi_K} {M : zi_M} {r : zi_R} : ∀ (n k : Nat) {f : zi_F}, zi_loop call M n f = some r → n ≤ k → zi_loop call M k f = some r
  | 0, _, f, h, _ => by cases h
  | n + 1, 0, f, _, hk => absurd hk (Nat.not_succ_le_zero n)
  | n + 1, k + 1, f, h, hk => by
    have h : (match zi_stp call [] M f with | some (.inl g) => bif zi_up f g then zi_loop call M n g else none | some (.inr v) => some (v, f.2.2.2.1, f.2.2.2.2.1, f.2.2.2.2.2) | none => none) = some r := h
    show (match zi_stp call [] M f with | some (.inl g) => bif zi_up f g then zi_loop call M k g else none | some (.inr v) => some (v, f.2.2.2.1, f.2.2.2.2.1, f.2.2.2.2.2) | none => none) = some r
    split at h
    · rename_i x hx
      cases hu : zi_up f x with
      | false => rw [hu] at h; cases h
      | true => rw [hu] at h; exact zi_loop_up n k h (Nat.le_of_succ_le_succ hk)
    · exact h
    · cases h
def zi_rc (call : zi_K) (M : zi_M) (f g : zi_F) (B : Nat) : Prop := ∃ j, j ≤ B ∧ zi_run call [] M j f = some g
theorem zi_rc_0 {call : zi_K} {M : zi_M} {f : zi_F} {B : Nat} : zi_rc call M f f B := ⟨0, Nat.zero_le _, rfl⟩
theorem zi_rc_c {call : zi_K} {M : zi_M} {f g h : zi_F} {B : Nat} (h1 : zi_run call [] M 1 f = some g) (h2 : zi_rc call M g h B) : zi_rc call M f h (B + 1) := by
  obtain ⟨j, hj, e⟩ := h2
  exact ⟨j + 1, Nat.succ_le_succ hj, zi_run_tr 1 j h1 e⟩
theorem zi_rc_t {call : zi_K} {M : zi_M} {f g h : zi_F} {B B' : Nat} (h1 : zi_rc call M f g B) (h2 : zi_rc call M g h B') : zi_rc call M f h (B' + B) := by
  obtain ⟨j, hj, e⟩ := h1
  obtain ⟨j', hj', e'⟩ := h2
  exact ⟨j' + j, Nat.add_le_add hj' hj, zi_run_tr j j' e e'⟩
theorem zi_rc_w {call : zi_K} {M : zi_M} {f g : zi_F} {B B' : Nat} (h : zi_rc call M f g B) (hb : B ≤ B') : zi_rc call M f g B' := by
  obtain ⟨j, hj, e⟩ := h
  exact ⟨j, Nat.le_trans hj hb, e⟩
theorem zi_run_1 {call : zi_K} {sl : List zi_V} {M : zi_M} {pc : Nat} {al : List (Nat × zi_V)} {st : List zi_V} {A : List zi_C} {nc ns : Nat} {i : Instr} {n : Nat} {o : List Nat} {g : zi_F} (h1 : zi_lk2 pc M.2.2.2.2.1 = some (i, n, o)) (h2 : zi_do call sl M.2.2.1 M.2.2.2.1 pc al st A nc ns i n o = some (.inl g)) (h3 : zi_up (pc, al, st, A, nc, ns) g = true) : zi_run call sl M 1 (pc, al, st, A, nc, ns) = some g := by
  have e : zi_stp call sl M (pc, al, st, A, nc, ns) = some (.inl g) := by
    unfold zi_stp
    simp only [h1, h2]
  show (match zi_stp call sl M (pc, al, st, A, nc, ns) with | some (.inl g) => bif zi_up (pc, al, st, A, nc, ns) g then some g else none | _ => none) = some g
  rw [e]
  dsimp only
  rw [h3]
  rfl
theorem zi_loop_e {call : zi_K} {M : zi_M} {pc : Nat} {al : List (Nat × zi_V)} {st : List zi_V} {A : List zi_C} {nc ns : Nat} {i : Instr} {n : Nat} {o : List Nat} {v : Option zi_V} (h1 : zi_lk2 pc M.2.2.2.2.1 = some (i, n, o)) (h2 : zi_do call [] M.2.2.1 M.2.2.2.1 pc al st A nc ns i n o = some (.inr v)) (h3 : zi_isr i = true) : zi_loop call M 1 (pc, al, st, A, nc, ns) = some (v, A, nc, ns) := by
  have e : zi_stp call [] M (pc, al, st, A, nc, ns) = some (.inr v) := by
    unfold zi_stp
    simp only [h1, h2, h3, cond_true]
  show (match zi_stp call [] M (pc, al, st, A, nc, ns) with | some (.inl g) => bif zi_up (pc, al, st, A, nc, ns) g then zi_loop call M 0 g else none | some (.inr v) => some (v, A, nc, ns) | none => none) = some (v, A, nc, ns)
  rw [e]
theorem zi_rc_end {call : zi_K} {M : zi_M} {f g : zi_F} {B n : Nat} {r : zi_R} (h : zi_rc call M f g B) (h2 : zi_loop call M 1 g = some r) (hn : B + 1 ≤ n) : zi_loop call M n f = some r := by
  obtain ⟨j, hj, e⟩ := h
  exact zi_loop_up (1 + j) n (zi_loop_run j 1 e h2) (by omega)
theorem zi_if1_s {c : ClassFile.Cond} {pc n : Nat} {al : List (Nat × zi_V)} {r : List zi_V} {A : List zi_C} {nc ns tgt : Nat} {v : zi_V} (q : Bool) (h : zi_test c v (.inl (.int 0)) = some q) : zi_if1 c pc n al (v :: r) A nc ns tgt = some (.inl (bif q then tgt else pc + n, al, r, A, nc, ns)) := by
  show zi_br pc n al r A nc ns tgt (zi_test c v (.inl (.int 0))) = _
  rw [h]
  cases q <;> rfl
theorem zi_if2_s {c : ClassFile.Cond} {pc n : Nat} {al : List (Nat × zi_V)} {r : List zi_V} {A : List zi_C} {nc ns tgt : Nat} {v w : zi_V} (q : Bool) (h : zi_test c v w = some q) : zi_if2 c pc n al (w :: v :: r) A nc ns tgt = some (.inl (bif q then tgt else pc + n, al, r, A, nc, ns)) := by
  show zi_br pc n al r A nc ns tgt (zi_test c v w) = _
  rw [h]
  cases q <;> rfl
theorem zi_get_s {pc n : Nat} {al : List (Nat × zi_V)} {rest : List zi_V} {A : List zi_C} {nc ns r ci k : Nat} {fs : List zi_V} {v : zi_V} (hr : Nat.ble 10 r = true) (h : A[r - 10]? = some (.inl (ci, fs))) (hv : fs[k]? = some v) : zi_get pc n al (.inl (.ref r) :: rest) A nc ns ci k = some (.inl (pc + n, al, v :: rest, A, nc, ns)) := by
  unfold zi_get
  dsimp only
  rw [hr, h]
  dsimp only [cond]
  rw [Nat.beq_refl, hv]
theorem zi_put_s {pc n : Nat} {al : List (Nat × zi_V)} {rest : List zi_V} {A : List zi_C} {nc ns r ci k : Nat} {fs : List zi_V} {v : zi_V} (hr : Nat.ble 10 r = true) (h : A[r - 10]? = some (.inl (ci, fs))) (hl : k < fs.length) (hf : zi_fit (zi_ty ci k) v = true) : zi_put pc n al (v :: .inl (.ref r) :: rest) A nc ns ci k = some (.inl (pc + n, al, rest, A.set (r - 10) (.inl (ci, fs.set k v)), nc, ns)) := by
  unfold zi_put
  dsimp only
  rw [hr, h]
  dsimp only [cond]
  rw [Nat.beq_refl, hf, Nat.ble_eq_true_of_le (show k + 1 ≤ fs.length from hl)]
  rfl
theorem zi_len_s {sl : List zi_V} {pc n : Nat} {al : List (Nat × zi_V)} {rest : List zi_V} {A : List zi_C} {nc ns r t N : Nat} {d : zi_V} {us : List (Nat × zi_V)} (hr : Nat.ble 10 r = true) (h : A[r - 10]? = some (.inr (t, N, d, us))) (ht : Nat.ble t 6 = true) : zi_len sl pc n al (.inl (.ref r) :: rest) A nc ns = some (.inl (pc + n, al, .inl (.int (Int32.ofNat N)) :: rest, A, nc, ns)) := by
  unfold zi_len
  dsimp only
  rw [hr, h]
  dsimp only [cond]
  rw [ht]
theorem zi_ast_s {pc n : Nat} {al : List (Nat × zi_V)} {rest : List zi_V} {A : List zi_C} {nc ns r t N : Nat} {d v : zi_V} {us : List (Nat × zi_V)} {x : Int32} (hr : Nat.ble 10 r = true) (h : A[r - 10]? = some (.inr (t, N, d, us))) (hi : zi_in x N = true) (hv : zi_sok t v = true) : zi_ast t pc n al (v :: .inl (.int x) :: .inl (.ref r) :: rest) A nc ns = some (.inl (pc + n, al, rest, A.set (r - 10) (.inr (t, N, d, (x.toNatClampNeg, v) :: us)), nc, ns)) := by
  unfold zi_ast
  dsimp only
  rw [hr, h]
  dsimp only [cond]
  rw [Nat.beq_refl, hi, hv]
  rfl
theorem zi_rcv_s {A : List zi_C} {r ci : Nat} {fs : List zi_V} (hr : Nat.ble 10 r = true) (h : A[r - 10]? = some (.inl (ci, fs))) : zi_rcv A ci (some (.inl (.ref r))) = true := by
  unfold zi_rcv
  dsimp only
  rw [hr, h]
  dsimp only [cond]
  rw [Nat.beq_refl]
theorem zi_inv_s {call : zi_K} {pc n : Nat} {al : List (Nat × zi_V)} {st : List zi_V} {A A' : List zi_C} {nc ns mi k c1 c2 : Nat} {v : zi_V} (h1 : (Nat.ble k st.length && Nat.ble (zi_cats (st.drop k)) 8) = true) (h2 : call mi (st.take k).reverse A = some (some v, A', c1, c2)) : zi_inv call pc n al st A nc ns mi k = some (.inl (pc + n, al, v :: st.drop k, A', nc + c1, ns + c2)) := by
  unfold zi_inv
  rw [h1]
  dsimp only [cond]
  rw [h2]
theorem zi_inv_n {call : zi_K} {pc n : Nat} {al : List (Nat × zi_V)} {st : List zi_V} {A A' : List zi_C} {nc ns mi k c1 c2 : Nat} (h1 : (Nat.ble k st.length && Nat.ble (zi_cats (st.drop k)) 8) = true) (h2 : call mi (st.take k).reverse A = some (none, A', c1, c2)) : zi_inv call pc n al st A nc ns mi k = some (.inl (pc + n, al, st.drop k, A', nc + c1, ns + c2)) := by
  unfold zi_inv
  rw [h1]
  dsimp only [cond]
  rw [h2]
theorem zi_ivv {call : zi_K} {sl : List zi_V} {nL : Nat} {ret : Option FieldType} {pc n : Nat} {al : List (Nat × zi_V)} {st : List zi_V} {A : List zi_C} {nc ns mi k ci j : Nat} {o : List Nat} {g : zi_F} (hk : Nat.ble 1 k = true) (hr : zi_rcv A ci st[k - 1]? = true) (hi : zi_inv call pc n al st A nc ns mi k = some (.inl g)) : zi_do call sl nL ret pc al st A nc ns (.invokevirtual j) n (mi :: k :: ci :: o) = some (.inl g) := by
  show (bif Nat.ble 1 k && zi_rcv A ci st[k - 1]? then zi_inv call pc n al st A nc ns mi k else none) = some (.inl g)
  rw [hk, hr]
  exact hi
theorem zi_ald_s {sl : List zi_V} {pc n : Nat} {al : List (Nat × zi_V)} {rest : List zi_V} {A : List zi_C} {nc ns j : Nat} {x : Int32} {v : zi_V} (hi : zi_in x sl.length = true) (hx : x.toNatClampNeg = j) (hv : sl[j]? = some v) : zi_ald 0 sl pc n al (.inl (.int x) :: .inl (.ref 8) :: rest) A nc ns = some (.inl (pc + n, al, v :: rest, A, nc, ns)) := by
  unfold zi_ald
  dsimp only
  rw [hi, hx, hv]
  rfl
theorem zi_tlt (x y : Int32) : zi_test .lt (.inl (.int x)) (.inl (.int y)) = some (decide (x < y)) := by
  show (bif decide (x < y) then some true else bif decide (y ≤ x) then some false else none) = _
  by_cases h : x < y
  · simp [h]
  · have h2 : y ≤ x := Int32.not_lt.mp h
    simp [h, h2]
theorem zi_tgt (x y : Int32) : zi_test .gt (.inl (.int x)) (.inl (.int y)) = some (decide (y < x)) := zi_tlt y x
theorem zi_tge (x y : Int32) : zi_test .ge (.inl (.int x)) (.inl (.int y)) = some (decide (y ≤ x)) := by
  show (bif decide (y ≤ x) then some true else bif decide (x < y) then some false else none) = _
  by_cases h : y ≤ x
  · simp [h]
  · have h2 : x < y := Int32.not_le.mp h
    simp [h, h2]
theorem zi_teq (x y : Int32) : zi_test .eq (.inl (.int x)) (.inl (.int y)) = some (decide (x = y)) := by
  show (bif decide (x < y) || decide (y < x) then some false else bif decide (x = x) && decide (y = y) && decide (x = y) then some true else none) = _
  by_cases h : x = y
  · subst h
    simp [Int32.lt_irrefl]
  · have h2 : x < y ∨ y < x := by
      rcases Int32.lt_or_le (a := x) (b := y) with z | z
      · exact Or.inl z
      · exact Or.inr (Int32.lt_of_le_of_ne z (fun e => h e.symm))
    rcases h2 with z | z <;> simp [z, h]
/-! The bytes. -/
def zi_by (v : Int64) (k : Int32) : Int32 := ((v.toUInt64 >>> (k.toInt64.toUInt64 &&& Int64.toUInt64 63)).toInt64 &&& Int64.ofNat 255).toInt32
def zi_bm (v : Int64) (k : Int32) : Int32 := (v >>> (k.toInt64 &&& 63)).toInt32 &&& (Int16.ofInt 255).toInt32
theorem zi_255 (i : Nat) : Nat.testBit 255 i = decide (i < 8) := Nat.testBit_two_pow_sub_one 8 i
theorem zi_byt (v : Int64) (s : UInt64) (t : Int64) (a : Nat) (ha : a ≤ 56) (hs : s.toNat % 64 = a) (ht : (t.toBitVec.smod 64).toNat = a) : ((v.toUInt64 >>> s).toInt64 &&& Int64.ofNat 255).toInt32 = (v >>> t).toInt32 &&& (Int16.ofInt 255).toInt32 := by
  have e1 : ((v.toUInt64 >>> s).toInt64 &&& Int64.ofNat 255).toBitVec = (v.toBitVec >>> a) &&& 255#64 := by
    show (v.toBitVec >>> (s % 64).toBitVec) &&& 255#64 = _
    rw [BitVec.ushiftRight_eq', show (s % 64).toBitVec.toNat = a from (UInt64.toNat_mod s 64).trans hs]
  have e2 : (v >>> t).toBitVec = v.toBitVec.sshiftRight a := by
    show v.toBitVec.sshiftRight' (t.toBitVec.smod 64) = _
    rw [BitVec.sshiftRight_eq', ht]
  have e3 : (Int16.ofInt 255).toInt32.toBitVec = 255#32 := by decide
  apply Int32.toBitVec_inj.mp
  rw [Int64.toBitVec_toInt32, Int32.toBitVec_and, Int64.toBitVec_toInt32, e1, e2, e3]
  apply BitVec.eq_of_getLsbD_eq
  intro i hi
  rw [BitVec.getLsbD_and, BitVec.getLsbD_signExtend, BitVec.getLsbD_signExtend, BitVec.getLsbD_and, BitVec.getLsbD_ushiftRight, BitVec.getLsbD_sshiftRight, BitVec.getLsbD_ofNat, BitVec.getLsbD_ofNat, zi_255]
  by_cases h8 : i < 8
  · have h64 : i < 64 := by omega
    have h1 : a + i < 64 := by omega
    have h2 : ¬ 64 ≤ i := by omega
    simp [h8, hi, h64, h1, h2]
  · have h64 : i < 64 := by omega
    simp [h8, hi, h64]
def zi_fb (c : Int32) : Bool := decide (c = 10) || (!decide (c < 32) && !decide (126 < c))
/-- the length behind a byte -/
def zi_av (c : Int32) (j : Nat) : Nat := bif zi_fb c then j + 1 else j
theorem zi_av_le (c : Int32) (j : Nat) : zi_av c j ≤ j + 1 := by
  unfold zi_av
  cases zi_fb c with
  | true => exact Nat.le_refl _
  | false => exact Nat.le_succ j
def zi_sg (v : Int64) (j : Nat) : Nat := zi_av (zi_by v 0) (zi_av (zi_by v 8) (zi_av (zi_by v 16) (zi_av (zi_by v 24) (zi_av (zi_by v 32) (zi_av (zi_by v 40) (zi_av (zi_by v 48) (zi_av (zi_by v 56) j)))))))
/-- an object with a row and how much of it is used; nothing else changes -/
def zi_Pq (io ia ci t ka kf : Nat) (A : List zi_C) (j : Nat) : Prop := (∃ fs : List zi_V, A[io]? = some (.inl (ci, fs)) ∧ fs[ka]? = some (.inl (.ref (10 + ia))) ∧ fs[kf]? = some (.inl (.int (nI j)))) ∧ ∃ us : List (Nat × zi_V), A[ia]? = some (.inr (t, 1000, .inl (.int 0), us))
def zi_Kq (io ia : Nat) (A A' : List zi_C) : Prop := ∀ i, i ≠ io → i ≠ ia → A'[i]? = A[i]?
theorem zi_Kq_t {io ia : Nat} {A B C : List zi_C} (h1 : zi_Kq io ia A B) (h2 : zi_Kq io ia B C) : zi_Kq io ia A C := fun i a b => (h2 i a b).trans (h1 i a b)
theorem zi_Pq_put {io ia ci t ka kf : Nat} {A : List zi_C} {j : Nat} {fs : List zi_V} {us : List (Nat × zi_V)} (hio : io ≠ ia) (hka : ka ≠ kf) (h1 : A[io]? = some (.inl (ci, fs))) (h2 : fs[ka]? = some (.inl (.ref (10 + ia)))) (h3 : fs[kf]? = some (.inl (.int (nI j)))) (h4 : A[ia]? = some (.inr (t, 1000, .inl (.int 0), us))) (u : Nat × zi_V) {w : Int32} (hw : w = nI (j + 1)) :
    zi_Pq io ia ci t ka kf ((A.set ia (.inr (t, 1000, .inl (.int 0), u :: us))).set io (.inl (ci, fs.set kf (.inl (.int w))))) (j + 1) ∧ zi_Kq io ia A ((A.set ia (.inr (t, 1000, .inl (.int 0), u :: us))).set io (.inl (ci, fs.set kf (.inl (.int w))))) := by
  have l1 : io < A.length := (List.getElem?_eq_some_iff.mp h1).1
  have l4 : ia < A.length := (List.getElem?_eq_some_iff.mp h4).1
  have l3 : kf < fs.length := (List.getElem?_eq_some_iff.mp h3).1
  subst hw
  refine ⟨⟨⟨fs.set kf (.inl (.int (nI (j + 1)))), ?_, ?_, ?_⟩, ⟨u :: us, ?_⟩⟩, fun i hi hi' => ?_⟩
  · simp [l1]
  · rw [List.getElem?_set_ne (fun z => hka z.symm)]; exact h2
  · simp [l3]
  · rw [List.getElem?_set_ne hio]; simp [l4]
  · rw [List.getElem?_set_ne (fun z => hi z.symm), List.getElem?_set_ne (fun z => hi' z.symm)]
theorem zi_in_nI {j N : Nat} (h : j < N) (hN : N < 2 ^ 31) : zi_in (nI j) N = true := by
  unfold zi_in
  rw [nI_clamp (by omega), Nat.ble_eq_true_of_le (show j + 1 ≤ N from h)]
  simp [nI_pos (show j < 2 ^ 31 by omega)]
theorem zi_fit_int (y : Int32) : zi_fit .int (.inl (.int y)) = true := by
  show (decide (narrow .int (.int y) = .int y) && fits .int (.int y)) = true
  rw [decide_eq_true (vp_nar_int y)]
  rfl
theorem zi_sok_c (c : Int32) : zi_sok 3 (.inl (.int (c.toUInt32 % 65536).toInt32)) = true := decide_eq_true (pk_nc c)
theorem zi_c10 : (Int8.ofInt 10).toInt32 = 10 := by decide
theorem zi_c32 : (Int8.ofInt 32).toInt32 = 32 := by decide
theorem zi_c126 : (Int8.ofInt 126).toInt32 = 126 := by decide
theorem zi_c56 : (Int8.ofInt 56).toInt32 = 56 := by decide
theorem zi_c1000 : (Int16.ofInt 1000).toInt32 = nI 1000 := by decide
theorem zi_k1000 : Int32.ofNat 1000 = nI 1000 := rfl
theorem zi_one (j : Nat) : nI j + Int32.ofInt 1 = nI (j + 1) := by rw [nI_succ]; rfl
/-! putBytes: from the loop's head to the first compare; the compares; the store. -/
theorem zi_pA1 {call : zi_K} (v : Int64) (k : Int32) (A : List zi_C) (hk : zi_test .lt (.inl (.int k)) (.inl (.int 0)) = some false) : zi_rc call zi_m40 (3, [(3, .inl (.int k)), (0, .inl (.ref 12)), (1, .inl (.long v))], [], A, 0, 0) (21, [(4, .inl (.int (zi_by v k))), (3, .inl (.int k)), (0, .inl (.ref 12)), (1, .inl (.long v))], [.inl (.int (Int8.ofInt 10).toInt32), .inl (.int (zi_by v k))], A, 0, 0) 11 := by
  refine zi_rc_c (zi_run_1 (g := (4, [(3, .inl (.int k)), (0, .inl (.ref 12)), (1, .inl (.long v))], [.inl (.int k)], A, 0, 0)) rfl rfl rfl) ?_
  refine zi_rc_c (zi_run_1 (g := (7, [(3, .inl (.int k)), (0, .inl (.ref 12)), (1, .inl (.long v))], [], A, 0, 0)) rfl (show zi_if1 .lt 4 3 ([(3, .inl (.int k)), (0, .inl (.ref 12)), (1, .inl (.long v))]) [.inl (.int k)] A 0 0 90 = some (.inl (7, [(3, .inl (.int k)), (0, .inl (.ref 12)), (1, .inl (.long v))], [], A, 0, 0)) from zi_if1_s false hk) rfl) ?_
  refine zi_rc_c (zi_run_1 (g := (8, [(3, .inl (.int k)), (0, .inl (.ref 12)), (1, .inl (.long v))], [.inl (.long v)], A, 0, 0)) rfl rfl rfl) ?_
  refine zi_rc_c (zi_run_1 (g := (9, [(3, .inl (.int k)), (0, .inl (.ref 12)), (1, .inl (.long v))], [.inl (.int k), .inl (.long v)], A, 0, 0)) rfl rfl rfl) ?_
  refine zi_rc_c (zi_run_1 (g := (10, [(3, .inl (.int k)), (0, .inl (.ref 12)), (1, .inl (.long v))], [.inl (.long (v.toUInt64 >>> (k.toInt64.toUInt64 &&& Int64.toUInt64 63)).toInt64)], A, 0, 0)) rfl rfl rfl) ?_
  refine zi_rc_c (zi_run_1 (g := (13, [(3, .inl (.int k)), (0, .inl (.ref 12)), (1, .inl (.long v))], [.inl (.long (Int64.ofNat 255)), .inl (.long (v.toUInt64 >>> (k.toInt64.toUInt64 &&& Int64.toUInt64 63)).toInt64)], A, 0, 0)) rfl rfl rfl) ?_
  refine zi_rc_c (zi_run_1 (g := (14, [(3, .inl (.int k)), (0, .inl (.ref 12)), (1, .inl (.long v))], [.inl (.long ((v.toUInt64 >>> (k.toInt64.toUInt64 &&& Int64.toUInt64 63)).toInt64 &&& Int64.ofNat 255))], A, 0, 0)) rfl rfl rfl) ?_
  refine zi_rc_c (zi_run_1 (g := (15, [(3, .inl (.int k)), (0, .inl (.ref 12)), (1, .inl (.long v))], [.inl (.int (zi_by v k))], A, 0, 0)) rfl rfl rfl) ?_
  refine zi_rc_c (zi_run_1 (g := (17, [(4, .inl (.int (zi_by v k))), (3, .inl (.int k)), (0, .inl (.ref 12)), (1, .inl (.long v))], [], A, 0, 0)) rfl rfl rfl) ?_
  refine zi_rc_c (zi_run_1 (g := (19, [(4, .inl (.int (zi_by v k))), (3, .inl (.int k)), (0, .inl (.ref 12)), (1, .inl (.long v))], [.inl (.int (zi_by v k))], A, 0, 0)) rfl rfl rfl) ?_
  refine zi_rc_c (zi_run_1 (g := (21, [(4, .inl (.int (zi_by v k))), (3, .inl (.int k)), (0, .inl (.ref 12)), (1, .inl (.long v))], [.inl (.int (Int8.ofInt 10).toInt32), .inl (.int (zi_by v k))], A, 0, 0)) rfl rfl rfl) ?_
  exact zi_rc_0
theorem zi_pA2 {call : zi_K} (v : Int64) (k : Int32) (A : List zi_C) (f d : zi_V) (hk : zi_test .lt (.inl (.int k)) (.inl (.int 0)) = some false) : zi_rc call zi_m40 (3, [(3, .inl (.int k)), (5, f), (4, d), (0, .inl (.ref 12)), (1, .inl (.long v))], [], A, 0, 0) (21, [(4, .inl (.int (zi_by v k))), (3, .inl (.int k)), (5, f), (0, .inl (.ref 12)), (1, .inl (.long v))], [.inl (.int (Int8.ofInt 10).toInt32), .inl (.int (zi_by v k))], A, 0, 0) 11 := by
  refine zi_rc_c (zi_run_1 (g := (4, [(3, .inl (.int k)), (5, f), (4, d), (0, .inl (.ref 12)), (1, .inl (.long v))], [.inl (.int k)], A, 0, 0)) rfl rfl rfl) ?_
  refine zi_rc_c (zi_run_1 (g := (7, [(3, .inl (.int k)), (5, f), (4, d), (0, .inl (.ref 12)), (1, .inl (.long v))], [], A, 0, 0)) rfl (show zi_if1 .lt 4 3 ([(3, .inl (.int k)), (5, f), (4, d), (0, .inl (.ref 12)), (1, .inl (.long v))]) [.inl (.int k)] A 0 0 90 = some (.inl (7, [(3, .inl (.int k)), (5, f), (4, d), (0, .inl (.ref 12)), (1, .inl (.long v))], [], A, 0, 0)) from zi_if1_s false hk) rfl) ?_
  refine zi_rc_c (zi_run_1 (g := (8, [(3, .inl (.int k)), (5, f), (4, d), (0, .inl (.ref 12)), (1, .inl (.long v))], [.inl (.long v)], A, 0, 0)) rfl rfl rfl) ?_
  refine zi_rc_c (zi_run_1 (g := (9, [(3, .inl (.int k)), (5, f), (4, d), (0, .inl (.ref 12)), (1, .inl (.long v))], [.inl (.int k), .inl (.long v)], A, 0, 0)) rfl rfl rfl) ?_
  refine zi_rc_c (zi_run_1 (g := (10, [(3, .inl (.int k)), (5, f), (4, d), (0, .inl (.ref 12)), (1, .inl (.long v))], [.inl (.long (v.toUInt64 >>> (k.toInt64.toUInt64 &&& Int64.toUInt64 63)).toInt64)], A, 0, 0)) rfl rfl rfl) ?_
  refine zi_rc_c (zi_run_1 (g := (13, [(3, .inl (.int k)), (5, f), (4, d), (0, .inl (.ref 12)), (1, .inl (.long v))], [.inl (.long (Int64.ofNat 255)), .inl (.long (v.toUInt64 >>> (k.toInt64.toUInt64 &&& Int64.toUInt64 63)).toInt64)], A, 0, 0)) rfl rfl rfl) ?_
  refine zi_rc_c (zi_run_1 (g := (14, [(3, .inl (.int k)), (5, f), (4, d), (0, .inl (.ref 12)), (1, .inl (.long v))], [.inl (.long ((v.toUInt64 >>> (k.toInt64.toUInt64 &&& Int64.toUInt64 63)).toInt64 &&& Int64.ofNat 255))], A, 0, 0)) rfl rfl rfl) ?_
  refine zi_rc_c (zi_run_1 (g := (15, [(3, .inl (.int k)), (5, f), (4, d), (0, .inl (.ref 12)), (1, .inl (.long v))], [.inl (.int (zi_by v k))], A, 0, 0)) rfl rfl rfl) ?_
  refine zi_rc_c (zi_run_1 (g := (17, [(4, .inl (.int (zi_by v k))), (3, .inl (.int k)), (5, f), (0, .inl (.ref 12)), (1, .inl (.long v))], [], A, 0, 0)) rfl rfl rfl) ?_
  refine zi_rc_c (zi_run_1 (g := (19, [(4, .inl (.int (zi_by v k))), (3, .inl (.int k)), (5, f), (0, .inl (.ref 12)), (1, .inl (.long v))], [.inl (.int (zi_by v k))], A, 0, 0)) rfl rfl rfl) ?_
  refine zi_rc_c (zi_run_1 (g := (21, [(4, .inl (.int (zi_by v k))), (3, .inl (.int k)), (5, f), (0, .inl (.ref 12)), (1, .inl (.long v))], [.inl (.int (Int8.ofInt 10).toInt32), .inl (.int (zi_by v k))], A, 0, 0)) rfl rfl rfl) ?_
  exact zi_rc_0
theorem zi_pB {call : zi_K} (v : Int64) (c k : Int32) (Y : List (Nat × zi_V)) (A : List zi_C) (hY : zi_del1 5 Y = (0, .inl (.ref 12)) :: (1, .inl (.long v)) :: []) : zi_rc call zi_m40 (21, (4, .inl (.int c)) :: (3, .inl (.int k)) :: Y, [.inl (.int (Int8.ofInt 10).toInt32), .inl (.int c)], A, 0, 0) (45, (5, .inl (.int (Int32.ofInt (bif zi_fb c then 1 else 0)))) :: (4, .inl (.int c)) :: (3, .inl (.int k)) :: (0, .inl (.ref 12)) :: (1, .inl (.long v)) :: [], [], A, 0, 0) 12 := by
  by_cases h10 : c = 10
  · refine zi_rc_c (zi_run_1 (g := (38, (4, .inl (.int c)) :: (3, .inl (.int k)) :: Y, [], A, 0, 0)) rfl (zi_if2_s true (by rw [zi_c10, zi_teq]; simp [h10])) rfl) ?_
    refine zi_rc_c (zi_run_1 (g := (39, (4, .inl (.int c)) :: (3, .inl (.int k)) :: Y, [.inl (.int (Int32.ofInt 1))], A, 0, 0)) rfl rfl rfl) ?_
    refine zi_rc_c (zi_run_1 (g := (43, (4, .inl (.int c)) :: (3, .inl (.int k)) :: Y, [.inl (.int (Int32.ofInt 1))], A, 0, 0)) rfl rfl rfl) ?_
    rw [show zi_fb c = true by unfold zi_fb; simp [*]]
    rw [← hY]
    refine zi_rc_c (zi_run_1 (g := (45, (5, .inl (.int (Int32.ofInt 1))) :: (4, .inl (.int c)) :: (3, .inl (.int k)) :: zi_del1 5 Y, [], A, 0, 0)) rfl rfl rfl) ?_
    exact zi_rc_0
  · refine zi_rc_c (zi_run_1 (g := (24, (4, .inl (.int c)) :: (3, .inl (.int k)) :: Y, [], A, 0, 0)) rfl (zi_if2_s false (by rw [zi_c10, zi_teq]; simp [h10])) rfl) ?_
    refine zi_rc_c (zi_run_1 (g := (26, (4, .inl (.int c)) :: (3, .inl (.int k)) :: Y, [.inl (.int c)], A, 0, 0)) rfl rfl rfl) ?_
    refine zi_rc_c (zi_run_1 (g := (28, (4, .inl (.int c)) :: (3, .inl (.int k)) :: Y, [.inl (.int (Int8.ofInt 32).toInt32), .inl (.int c)], A, 0, 0)) rfl rfl rfl) ?_
    by_cases h32 : c < 32
    · refine zi_rc_c (zi_run_1 (g := (42, (4, .inl (.int c)) :: (3, .inl (.int k)) :: Y, [], A, 0, 0)) rfl (zi_if2_s true (by rw [zi_c32, zi_tlt]; simp [h32])) rfl) ?_
      refine zi_rc_c (zi_run_1 (g := (43, (4, .inl (.int c)) :: (3, .inl (.int k)) :: Y, [.inl (.int (Int32.ofInt 0))], A, 0, 0)) rfl rfl rfl) ?_
      rw [show zi_fb c = false by unfold zi_fb; simp [*]]
      rw [← hY]
      refine zi_rc_c (zi_run_1 (g := (45, (5, .inl (.int (Int32.ofInt 0))) :: (4, .inl (.int c)) :: (3, .inl (.int k)) :: zi_del1 5 Y, [], A, 0, 0)) rfl rfl rfl) ?_
      exact zi_rc_0
    · refine zi_rc_c (zi_run_1 (g := (31, (4, .inl (.int c)) :: (3, .inl (.int k)) :: Y, [], A, 0, 0)) rfl (zi_if2_s false (by rw [zi_c32, zi_tlt]; simp [h32])) rfl) ?_
      refine zi_rc_c (zi_run_1 (g := (33, (4, .inl (.int c)) :: (3, .inl (.int k)) :: Y, [.inl (.int c)], A, 0, 0)) rfl rfl rfl) ?_
      refine zi_rc_c (zi_run_1 (g := (35, (4, .inl (.int c)) :: (3, .inl (.int k)) :: Y, [.inl (.int (Int8.ofInt 126).toInt32), .inl (.int c)], A, 0, 0)) rfl rfl rfl) ?_
      by_cases h126 : 126 < c
      · refine zi_rc_c (zi_run_1 (g := (42, (4, .inl (.int c)) :: (3, .inl (.int k)) :: Y, [], A, 0, 0)) rfl (zi_if2_s true (by rw [zi_c126, zi_tgt]; simp [h126])) rfl) ?_
        refine zi_rc_c (zi_run_1 (g := (43, (4, .inl (.int c)) :: (3, .inl (.int k)) :: Y, [.inl (.int (Int32.ofInt 0))], A, 0, 0)) rfl rfl rfl) ?_
        rw [show zi_fb c = false by unfold zi_fb; simp [*]]
        rw [← hY]
        refine zi_rc_c (zi_run_1 (g := (45, (5, .inl (.int (Int32.ofInt 0))) :: (4, .inl (.int c)) :: (3, .inl (.int k)) :: zi_del1 5 Y, [], A, 0, 0)) rfl rfl rfl) ?_
        exact zi_rc_0
      · refine zi_rc_c (zi_run_1 (g := (38, (4, .inl (.int c)) :: (3, .inl (.int k)) :: Y, [], A, 0, 0)) rfl (zi_if2_s false (by rw [zi_c126, zi_tgt]; simp [h126])) rfl) ?_
        refine zi_rc_c (zi_run_1 (g := (39, (4, .inl (.int c)) :: (3, .inl (.int k)) :: Y, [.inl (.int (Int32.ofInt 1))], A, 0, 0)) rfl rfl rfl) ?_
        refine zi_rc_c (zi_run_1 (g := (43, (4, .inl (.int c)) :: (3, .inl (.int k)) :: Y, [.inl (.int (Int32.ofInt 1))], A, 0, 0)) rfl rfl rfl) ?_
        rw [show zi_fb c = true by unfold zi_fb; simp [*]]
        rw [← hY]
        refine zi_rc_c (zi_run_1 (g := (45, (5, .inl (.int (Int32.ofInt 1))) :: (4, .inl (.int c)) :: (3, .inl (.int k)) :: zi_del1 5 Y, [], A, 0, 0)) rfl rfl rfl) ?_
        exact zi_rc_0
theorem zi_pC0 {call : zi_K} (v : Int64) (c k : Int32) (A : List zi_C) : zi_rc call zi_m40 (45, (5, .inl (.int (Int32.ofInt 0))) :: (4, .inl (.int c)) :: (3, .inl (.int k)) :: (0, .inl (.ref 12)) :: (1, .inl (.long v)) :: [], [], A, 0, 0) (3, (3, .inl (.int (k + Int32.ofInt (-8)))) :: (5, .inl (.int (Int32.ofInt 0))) :: (4, .inl (.int c)) :: (0, .inl (.ref 12)) :: (1, .inl (.long v)) :: [], [], A, 0, 0) 4 := by
  refine zi_rc_c (zi_run_1 (g := (47, (5, .inl (.int (Int32.ofInt 0))) :: (4, .inl (.int c)) :: (3, .inl (.int k)) :: (0, .inl (.ref 12)) :: (1, .inl (.long v)) :: [], [.inl (.int (Int32.ofInt 0))], A, 0, 0)) rfl rfl rfl) ?_
  refine zi_rc_c (zi_run_1 (g := (84, (5, .inl (.int (Int32.ofInt 0))) :: (4, .inl (.int c)) :: (3, .inl (.int k)) :: (0, .inl (.ref 12)) :: (1, .inl (.long v)) :: [], [], A, 0, 0)) rfl (show zi_if1 .eq 47 3 ((5, .inl (.int (Int32.ofInt 0))) :: (4, .inl (.int c)) :: (3, .inl (.int k)) :: (0, .inl (.ref 12)) :: (1, .inl (.long v)) :: []) [.inl (.int (Int32.ofInt 0))] A 0 0 84 = some (.inl (84, (5, .inl (.int (Int32.ofInt 0))) :: (4, .inl (.int c)) :: (3, .inl (.int k)) :: (0, .inl (.ref 12)) :: (1, .inl (.long v)) :: [], [], A, 0, 0)) from zi_if1_s true (by decide +kernel)) rfl) ?_
  refine zi_rc_c (zi_run_1 (g := (87, (3, .inl (.int (k + Int32.ofInt (-8)))) :: (5, .inl (.int (Int32.ofInt 0))) :: (4, .inl (.int c)) :: (0, .inl (.ref 12)) :: (1, .inl (.long v)) :: [], [], A, 0, 0)) rfl rfl rfl) ?_
  refine zi_rc_c (zi_run_1 (g := (3, (3, .inl (.int (k + Int32.ofInt (-8)))) :: (5, .inl (.int (Int32.ofInt 0))) :: (4, .inl (.int c)) :: (0, .inl (.ref 12)) :: (1, .inl (.long v)) :: [], [], A, 0, 0)) rfl rfl rfl) ?_
  exact zi_rc_0
theorem zi_pC1 {call : zi_K} (v : Int64) (c k : Int32) (A : List zi_C) {j : Nat} (hj : j < 1000) (hP : zi_Pq 2 3 2 3 0 5 A j) : ∃ A', zi_Pq 2 3 2 3 0 5 A' (j + 1) ∧ zi_Kq 2 3 A A' ∧ zi_rc call zi_m40 (45, (5, .inl (.int (Int32.ofInt 1))) :: (4, .inl (.int c)) :: (3, .inl (.int k)) :: (0, .inl (.ref 12)) :: (1, .inl (.long v)) :: [], [], A, 0, 0) (3, (3, .inl (.int (k + Int32.ofInt (-8)))) :: (5, .inl (.int (Int32.ofInt 1))) :: (4, .inl (.int c)) :: (0, .inl (.ref 12)) :: (1, .inl (.long v)) :: [], [], A', 0, 0) 24 := by
  obtain ⟨⟨fs, h1, h2, h3⟩, us, h4⟩ := hP
  have l3 : 5 < fs.length := (List.getElem?_eq_some_iff.mp h3).1
  have hQ := zi_Pq_put (io := 2) (ia := 3) (ka := 0) (kf := 5) (by decide) (by decide) h1 h2 h3 h4 ((nI j).toNatClampNeg, .inl (.int (c.toUInt32 % 65536).toInt32)) (zi_one j)
  have h5 : (A.set 3 (.inr (3, 1000, .inl (.int 0), ((nI j).toNatClampNeg, .inl (.int (c.toUInt32 % 65536).toInt32)) :: us)))[2]? = some (.inl (2, fs)) := by rw [List.getElem?_set_ne (by decide)]; exact h1
  refine ⟨((A.set 3 (.inr (3, 1000, .inl (.int 0), ((nI j).toNatClampNeg, .inl (.int (c.toUInt32 % 65536).toInt32)) :: us))).set 2 (.inl (2, fs.set 5 (.inl (.int (nI j + Int32.ofInt 1)))))), hQ.1, hQ.2, ?_⟩
  refine zi_rc_c (zi_run_1 (g := (47, (5, .inl (.int (Int32.ofInt 1))) :: (4, .inl (.int c)) :: (3, .inl (.int k)) :: (0, .inl (.ref 12)) :: (1, .inl (.long v)) :: [], [.inl (.int (Int32.ofInt 1))], A, 0, 0)) rfl rfl rfl) ?_
  refine zi_rc_c (zi_run_1 (g := (50, (5, .inl (.int (Int32.ofInt 1))) :: (4, .inl (.int c)) :: (3, .inl (.int k)) :: (0, .inl (.ref 12)) :: (1, .inl (.long v)) :: [], [], A, 0, 0)) rfl (show zi_if1 .eq 47 3 ((5, .inl (.int (Int32.ofInt 1))) :: (4, .inl (.int c)) :: (3, .inl (.int k)) :: (0, .inl (.ref 12)) :: (1, .inl (.long v)) :: []) [.inl (.int (Int32.ofInt 1))] A 0 0 84 = some (.inl (50, (5, .inl (.int (Int32.ofInt 1))) :: (4, .inl (.int c)) :: (3, .inl (.int k)) :: (0, .inl (.ref 12)) :: (1, .inl (.long v)) :: [], [], A, 0, 0)) from zi_if1_s false (by decide +kernel)) rfl) ?_
  refine zi_rc_c (zi_run_1 (g := (51, (5, .inl (.int (Int32.ofInt 1))) :: (4, .inl (.int c)) :: (3, .inl (.int k)) :: (0, .inl (.ref 12)) :: (1, .inl (.long v)) :: [], [.inl (.ref 12)], A, 0, 0)) rfl rfl rfl) ?_
  refine zi_rc_c (zi_run_1 (g := (54, (5, .inl (.int (Int32.ofInt 1))) :: (4, .inl (.int c)) :: (3, .inl (.int k)) :: (0, .inl (.ref 12)) :: (1, .inl (.long v)) :: [], [.inl (.int (nI j))], A, 0, 0)) rfl (show zi_get 51 3 ((5, .inl (.int (Int32.ofInt 1))) :: (4, .inl (.int c)) :: (3, .inl (.int k)) :: (0, .inl (.ref 12)) :: (1, .inl (.long v)) :: []) [.inl (.ref 12)] A 0 0 2 5 = some (.inl (54, (5, .inl (.int (Int32.ofInt 1))) :: (4, .inl (.int c)) :: (3, .inl (.int k)) :: (0, .inl (.ref 12)) :: (1, .inl (.long v)) :: [], [.inl (.int (nI j))], A, 0, 0)) from zi_get_s rfl h1 h3) rfl) ?_
  refine zi_rc_c (zi_run_1 (g := (55, (5, .inl (.int (Int32.ofInt 1))) :: (4, .inl (.int c)) :: (3, .inl (.int k)) :: (0, .inl (.ref 12)) :: (1, .inl (.long v)) :: [], [.inl (.ref 12), .inl (.int (nI j))], A, 0, 0)) rfl rfl rfl) ?_
  refine zi_rc_c (zi_run_1 (g := (58, (5, .inl (.int (Int32.ofInt 1))) :: (4, .inl (.int c)) :: (3, .inl (.int k)) :: (0, .inl (.ref 12)) :: (1, .inl (.long v)) :: [], [.inl (.ref 13), .inl (.int (nI j))], A, 0, 0)) rfl (show zi_get 55 3 ((5, .inl (.int (Int32.ofInt 1))) :: (4, .inl (.int c)) :: (3, .inl (.int k)) :: (0, .inl (.ref 12)) :: (1, .inl (.long v)) :: []) [.inl (.ref 12), .inl (.int (nI j))] A 0 0 2 0 = some (.inl (58, (5, .inl (.int (Int32.ofInt 1))) :: (4, .inl (.int c)) :: (3, .inl (.int k)) :: (0, .inl (.ref 12)) :: (1, .inl (.long v)) :: [], [.inl (.ref 13), .inl (.int (nI j))], A, 0, 0)) from zi_get_s rfl h1 h2) rfl) ?_
  refine zi_rc_c (zi_run_1 (g := (59, (5, .inl (.int (Int32.ofInt 1))) :: (4, .inl (.int c)) :: (3, .inl (.int k)) :: (0, .inl (.ref 12)) :: (1, .inl (.long v)) :: [], [.inl (.int (Int32.ofNat 1000)), .inl (.int (nI j))], A, 0, 0)) rfl (show zi_len [] 58 1 ((5, .inl (.int (Int32.ofInt 1))) :: (4, .inl (.int c)) :: (3, .inl (.int k)) :: (0, .inl (.ref 12)) :: (1, .inl (.long v)) :: []) [.inl (.ref 13), .inl (.int (nI j))] A 0 0 = some (.inl (59, (5, .inl (.int (Int32.ofInt 1))) :: (4, .inl (.int c)) :: (3, .inl (.int k)) :: (0, .inl (.ref 12)) :: (1, .inl (.long v)) :: [], [.inl (.int (Int32.ofNat 1000)), .inl (.int (nI j))], A, 0, 0)) from zi_len_s rfl h4 rfl) rfl) ?_
  refine zi_rc_c (zi_run_1 (g := (62, (5, .inl (.int (Int32.ofInt 1))) :: (4, .inl (.int c)) :: (3, .inl (.int k)) :: (0, .inl (.ref 12)) :: (1, .inl (.long v)) :: [], [], A, 0, 0)) rfl (show zi_if2 .ge 59 3 ((5, .inl (.int (Int32.ofInt 1))) :: (4, .inl (.int c)) :: (3, .inl (.int k)) :: (0, .inl (.ref 12)) :: (1, .inl (.long v)) :: []) [.inl (.int (Int32.ofNat 1000)), .inl (.int (nI j))] A 0 0 84 = some (.inl (62, (5, .inl (.int (Int32.ofInt 1))) :: (4, .inl (.int c)) :: (3, .inl (.int k)) :: (0, .inl (.ref 12)) :: (1, .inl (.long v)) :: [], [], A, 0, 0)) from zi_if2_s false (by rw [zi_k1000, zi_tge]; simp [nI_ge hj (by decide)])) rfl) ?_
  refine zi_rc_c (zi_run_1 (g := (63, (5, .inl (.int (Int32.ofInt 1))) :: (4, .inl (.int c)) :: (3, .inl (.int k)) :: (0, .inl (.ref 12)) :: (1, .inl (.long v)) :: [], [.inl (.ref 12)], A, 0, 0)) rfl rfl rfl) ?_
  refine zi_rc_c (zi_run_1 (g := (66, (5, .inl (.int (Int32.ofInt 1))) :: (4, .inl (.int c)) :: (3, .inl (.int k)) :: (0, .inl (.ref 12)) :: (1, .inl (.long v)) :: [], [.inl (.ref 13)], A, 0, 0)) rfl (show zi_get 63 3 ((5, .inl (.int (Int32.ofInt 1))) :: (4, .inl (.int c)) :: (3, .inl (.int k)) :: (0, .inl (.ref 12)) :: (1, .inl (.long v)) :: []) [.inl (.ref 12)] A 0 0 2 0 = some (.inl (66, (5, .inl (.int (Int32.ofInt 1))) :: (4, .inl (.int c)) :: (3, .inl (.int k)) :: (0, .inl (.ref 12)) :: (1, .inl (.long v)) :: [], [.inl (.ref 13)], A, 0, 0)) from zi_get_s rfl h1 h2) rfl) ?_
  refine zi_rc_c (zi_run_1 (g := (67, (5, .inl (.int (Int32.ofInt 1))) :: (4, .inl (.int c)) :: (3, .inl (.int k)) :: (0, .inl (.ref 12)) :: (1, .inl (.long v)) :: [], [.inl (.ref 12), .inl (.ref 13)], A, 0, 0)) rfl rfl rfl) ?_
  refine zi_rc_c (zi_run_1 (g := (70, (5, .inl (.int (Int32.ofInt 1))) :: (4, .inl (.int c)) :: (3, .inl (.int k)) :: (0, .inl (.ref 12)) :: (1, .inl (.long v)) :: [], [.inl (.int (nI j)), .inl (.ref 13)], A, 0, 0)) rfl (show zi_get 67 3 ((5, .inl (.int (Int32.ofInt 1))) :: (4, .inl (.int c)) :: (3, .inl (.int k)) :: (0, .inl (.ref 12)) :: (1, .inl (.long v)) :: []) [.inl (.ref 12), .inl (.ref 13)] A 0 0 2 5 = some (.inl (70, (5, .inl (.int (Int32.ofInt 1))) :: (4, .inl (.int c)) :: (3, .inl (.int k)) :: (0, .inl (.ref 12)) :: (1, .inl (.long v)) :: [], [.inl (.int (nI j)), .inl (.ref 13)], A, 0, 0)) from zi_get_s rfl h1 h3) rfl) ?_
  refine zi_rc_c (zi_run_1 (g := (72, (5, .inl (.int (Int32.ofInt 1))) :: (4, .inl (.int c)) :: (3, .inl (.int k)) :: (0, .inl (.ref 12)) :: (1, .inl (.long v)) :: [], [.inl (.int c), .inl (.int (nI j)), .inl (.ref 13)], A, 0, 0)) rfl rfl rfl) ?_
  refine zi_rc_c (zi_run_1 (g := (73, (5, .inl (.int (Int32.ofInt 1))) :: (4, .inl (.int c)) :: (3, .inl (.int k)) :: (0, .inl (.ref 12)) :: (1, .inl (.long v)) :: [], [.inl (.int (c.toUInt32 % 65536).toInt32), .inl (.int (nI j)), .inl (.ref 13)], A, 0, 0)) rfl rfl rfl) ?_
  refine zi_rc_c (zi_run_1 (g := (74, (5, .inl (.int (Int32.ofInt 1))) :: (4, .inl (.int c)) :: (3, .inl (.int k)) :: (0, .inl (.ref 12)) :: (1, .inl (.long v)) :: [], [], (A.set 3 (.inr (3, 1000, .inl (.int 0), ((nI j).toNatClampNeg, .inl (.int (c.toUInt32 % 65536).toInt32)) :: us))), 0, 0)) rfl (show zi_ast 3 73 1 ((5, .inl (.int (Int32.ofInt 1))) :: (4, .inl (.int c)) :: (3, .inl (.int k)) :: (0, .inl (.ref 12)) :: (1, .inl (.long v)) :: []) [.inl (.int (c.toUInt32 % 65536).toInt32), .inl (.int (nI j)), .inl (.ref 13)] A 0 0 = some (.inl (74, (5, .inl (.int (Int32.ofInt 1))) :: (4, .inl (.int c)) :: (3, .inl (.int k)) :: (0, .inl (.ref 12)) :: (1, .inl (.long v)) :: [], [], (A.set 3 (.inr (3, 1000, .inl (.int 0), ((nI j).toNatClampNeg, .inl (.int (c.toUInt32 % 65536).toInt32)) :: us))), 0, 0)) from zi_ast_s rfl h4 (zi_in_nI hj (by decide)) (zi_sok_c c)) rfl) ?_
  refine zi_rc_c (zi_run_1 (g := (75, (5, .inl (.int (Int32.ofInt 1))) :: (4, .inl (.int c)) :: (3, .inl (.int k)) :: (0, .inl (.ref 12)) :: (1, .inl (.long v)) :: [], [.inl (.ref 12)], (A.set 3 (.inr (3, 1000, .inl (.int 0), ((nI j).toNatClampNeg, .inl (.int (c.toUInt32 % 65536).toInt32)) :: us))), 0, 0)) rfl rfl rfl) ?_
  refine zi_rc_c (zi_run_1 (g := (76, (5, .inl (.int (Int32.ofInt 1))) :: (4, .inl (.int c)) :: (3, .inl (.int k)) :: (0, .inl (.ref 12)) :: (1, .inl (.long v)) :: [], [.inl (.ref 12), .inl (.ref 12)], (A.set 3 (.inr (3, 1000, .inl (.int 0), ((nI j).toNatClampNeg, .inl (.int (c.toUInt32 % 65536).toInt32)) :: us))), 0, 0)) rfl rfl rfl) ?_
  refine zi_rc_c (zi_run_1 (g := (79, (5, .inl (.int (Int32.ofInt 1))) :: (4, .inl (.int c)) :: (3, .inl (.int k)) :: (0, .inl (.ref 12)) :: (1, .inl (.long v)) :: [], [.inl (.int (nI j)), .inl (.ref 12)], (A.set 3 (.inr (3, 1000, .inl (.int 0), ((nI j).toNatClampNeg, .inl (.int (c.toUInt32 % 65536).toInt32)) :: us))), 0, 0)) rfl (show zi_get 76 3 ((5, .inl (.int (Int32.ofInt 1))) :: (4, .inl (.int c)) :: (3, .inl (.int k)) :: (0, .inl (.ref 12)) :: (1, .inl (.long v)) :: []) [.inl (.ref 12), .inl (.ref 12)] (A.set 3 (.inr (3, 1000, .inl (.int 0), ((nI j).toNatClampNeg, .inl (.int (c.toUInt32 % 65536).toInt32)) :: us))) 0 0 2 5 = some (.inl (79, (5, .inl (.int (Int32.ofInt 1))) :: (4, .inl (.int c)) :: (3, .inl (.int k)) :: (0, .inl (.ref 12)) :: (1, .inl (.long v)) :: [], [.inl (.int (nI j)), .inl (.ref 12)], (A.set 3 (.inr (3, 1000, .inl (.int 0), ((nI j).toNatClampNeg, .inl (.int (c.toUInt32 % 65536).toInt32)) :: us))), 0, 0)) from zi_get_s rfl h5 h3) rfl) ?_
  refine zi_rc_c (zi_run_1 (g := (80, (5, .inl (.int (Int32.ofInt 1))) :: (4, .inl (.int c)) :: (3, .inl (.int k)) :: (0, .inl (.ref 12)) :: (1, .inl (.long v)) :: [], [.inl (.int (Int32.ofInt 1)), .inl (.int (nI j)), .inl (.ref 12)], (A.set 3 (.inr (3, 1000, .inl (.int 0), ((nI j).toNatClampNeg, .inl (.int (c.toUInt32 % 65536).toInt32)) :: us))), 0, 0)) rfl rfl rfl) ?_
  refine zi_rc_c (zi_run_1 (g := (81, (5, .inl (.int (Int32.ofInt 1))) :: (4, .inl (.int c)) :: (3, .inl (.int k)) :: (0, .inl (.ref 12)) :: (1, .inl (.long v)) :: [], [.inl (.int (nI j + Int32.ofInt 1)), .inl (.ref 12)], (A.set 3 (.inr (3, 1000, .inl (.int 0), ((nI j).toNatClampNeg, .inl (.int (c.toUInt32 % 65536).toInt32)) :: us))), 0, 0)) rfl rfl rfl) ?_
  refine zi_rc_c (zi_run_1 (g := (84, (5, .inl (.int (Int32.ofInt 1))) :: (4, .inl (.int c)) :: (3, .inl (.int k)) :: (0, .inl (.ref 12)) :: (1, .inl (.long v)) :: [], [], ((A.set 3 (.inr (3, 1000, .inl (.int 0), ((nI j).toNatClampNeg, .inl (.int (c.toUInt32 % 65536).toInt32)) :: us))).set 2 (.inl (2, fs.set 5 (.inl (.int (nI j + Int32.ofInt 1)))))), 0, 0)) rfl (show zi_put 81 3 ((5, .inl (.int (Int32.ofInt 1))) :: (4, .inl (.int c)) :: (3, .inl (.int k)) :: (0, .inl (.ref 12)) :: (1, .inl (.long v)) :: []) [.inl (.int (nI j + Int32.ofInt 1)), .inl (.ref 12)] (A.set 3 (.inr (3, 1000, .inl (.int 0), ((nI j).toNatClampNeg, .inl (.int (c.toUInt32 % 65536).toInt32)) :: us))) 0 0 2 5 = some (.inl (84, (5, .inl (.int (Int32.ofInt 1))) :: (4, .inl (.int c)) :: (3, .inl (.int k)) :: (0, .inl (.ref 12)) :: (1, .inl (.long v)) :: [], [], ((A.set 3 (.inr (3, 1000, .inl (.int 0), ((nI j).toNatClampNeg, .inl (.int (c.toUInt32 % 65536).toInt32)) :: us))).set 2 (.inl (2, fs.set 5 (.inl (.int (nI j + Int32.ofInt 1)))))), 0, 0)) from zi_put_s rfl h5 l3 (zi_fit_int _)) rfl) ?_
  refine zi_rc_c (zi_run_1 (g := (87, (3, .inl (.int (k + Int32.ofInt (-8)))) :: (5, .inl (.int (Int32.ofInt 1))) :: (4, .inl (.int c)) :: (0, .inl (.ref 12)) :: (1, .inl (.long v)) :: [], [], ((A.set 3 (.inr (3, 1000, .inl (.int 0), ((nI j).toNatClampNeg, .inl (.int (c.toUInt32 % 65536).toInt32)) :: us))).set 2 (.inl (2, fs.set 5 (.inl (.int (nI j + Int32.ofInt 1)))))), 0, 0)) rfl rfl rfl) ?_
  refine zi_rc_c (zi_run_1 (g := (3, (3, .inl (.int (k + Int32.ofInt (-8)))) :: (5, .inl (.int (Int32.ofInt 1))) :: (4, .inl (.int c)) :: (0, .inl (.ref 12)) :: (1, .inl (.long v)) :: [], [], ((A.set 3 (.inr (3, 1000, .inl (.int 0), ((nI j).toNatClampNeg, .inl (.int (c.toUInt32 % 65536).toInt32)) :: us))).set 2 (.inl (2, fs.set 5 (.inl (.int (nI j + Int32.ofInt 1)))))), 0, 0)) rfl rfl rfl) ?_
  exact zi_rc_0
/-- an iteration of putBytes -/
theorem zi_it40 {call : zi_K} (v : Int64) {k k' : Int32} (hk : zi_test .lt (.inl (.int k)) (.inl (.int 0)) = some false) (hk' : k + Int32.ofInt (-8) = k') {A : List zi_C} {j : Nat} (hj : j < 1000) (hP : zi_Pq 2 3 2 3 0 5 A j) {X : List (Nat × zi_V)} (hX : X = (0, .inl (.ref 12)) :: (1, .inl (.long v)) :: [] ∨ ∃ f d : zi_V, X = (5, f) :: (4, d) :: (0, .inl (.ref 12)) :: (1, .inl (.long v)) :: []) :
    ∃ (A' : List zi_C) (X' : List (Nat × zi_V)), zi_Pq 2 3 2 3 0 5 A' (zi_av (zi_by v k) j) ∧ zi_Kq 2 3 A A' ∧ (∃ f d : zi_V, X' = (5, f) :: (4, d) :: (0, .inl (.ref 12)) :: (1, .inl (.long v)) :: []) ∧ zi_rc call zi_m40 (3, (3, .inl (.int k)) :: X, [], A, 0, 0) (3, (3, .inl (.int k')) :: X', [], A', 0, 0) 50 := by
  subst hk'
  have hB : ∃ Y : List (Nat × zi_V), zi_del1 5 Y = (0, .inl (.ref 12)) :: (1, .inl (.long v)) :: [] ∧ zi_rc call zi_m40 (3, (3, .inl (.int k)) :: X, [], A, 0, 0) (21, (4, .inl (.int (zi_by v k))) :: (3, .inl (.int k)) :: Y, [.inl (.int (Int8.ofInt 10).toInt32), .inl (.int (zi_by v k))], A, 0, 0) 11 := by
    rcases hX with rfl | ⟨f, d, rfl⟩
    · exact ⟨(0, .inl (.ref 12)) :: (1, .inl (.long v)) :: [], rfl, zi_pA1 v k A hk⟩
    · exact ⟨(5, f) :: (0, .inl (.ref 12)) :: (1, .inl (.long v)) :: [], rfl, zi_pA2 v k A f d hk⟩
  obtain ⟨Y, hY, h1⟩ := hB
  have h2 := zi_pB (call := call) v (zi_by v k) k Y A hY
  have h12 := zi_rc_t h1 h2
  unfold zi_av
  cases hf : zi_fb (zi_by v k) with
  | false =>
    rw [hf] at h12
    exact ⟨A, _, hP, fun _ _ _ => rfl, ⟨_, _, rfl⟩, zi_rc_w (zi_rc_t h12 (zi_pC0 v (zi_by v k) k A)) (by decide)⟩
  | true =>
    rw [hf] at h12
    obtain ⟨A', hP', hK', h3⟩ := zi_pC1 (call := call) v (zi_by v k) k A hj hP
    exact ⟨A', _, hP', hK', ⟨_, _, rfl⟩, zi_rc_w (zi_rc_t h12 h3) (by decide)⟩
/-! lay, the check's own. -/
theorem zi_qA1 {call : zi_K} (v : Int64) (k : Int32) (A : List zi_C) (hk : zi_test .lt (.inl (.int k)) (.inl (.int 0)) = some false) : zi_rc call zi_m39 (3, [(3, .inl (.int k)), (0, .inl (.ref 82)), (1, .inl (.long v))], [], A, 0, 0) (21, [(4, .inl (.int (zi_bm v k))), (3, .inl (.int k)), (0, .inl (.ref 82)), (1, .inl (.long v))], [.inl (.int (Int8.ofInt 10).toInt32), .inl (.int (zi_bm v k))], A, 0, 0) 11 := by
  refine zi_rc_c (zi_run_1 (g := (4, [(3, .inl (.int k)), (0, .inl (.ref 82)), (1, .inl (.long v))], [.inl (.int k)], A, 0, 0)) rfl rfl rfl) ?_
  refine zi_rc_c (zi_run_1 (g := (7, [(3, .inl (.int k)), (0, .inl (.ref 82)), (1, .inl (.long v))], [], A, 0, 0)) rfl (show zi_if1 .lt 4 3 ([(3, .inl (.int k)), (0, .inl (.ref 82)), (1, .inl (.long v))]) [.inl (.int k)] A 0 0 75 = some (.inl (7, [(3, .inl (.int k)), (0, .inl (.ref 82)), (1, .inl (.long v))], [], A, 0, 0)) from zi_if1_s false hk) rfl) ?_
  refine zi_rc_c (zi_run_1 (g := (8, [(3, .inl (.int k)), (0, .inl (.ref 82)), (1, .inl (.long v))], [.inl (.long v)], A, 0, 0)) rfl rfl rfl) ?_
  refine zi_rc_c (zi_run_1 (g := (9, [(3, .inl (.int k)), (0, .inl (.ref 82)), (1, .inl (.long v))], [.inl (.int k), .inl (.long v)], A, 0, 0)) rfl rfl rfl) ?_
  refine zi_rc_c (zi_run_1 (g := (10, [(3, .inl (.int k)), (0, .inl (.ref 82)), (1, .inl (.long v))], [.inl (.long (v >>> (k.toInt64 &&& 63)))], A, 0, 0)) rfl rfl rfl) ?_
  refine zi_rc_c (zi_run_1 (g := (11, [(3, .inl (.int k)), (0, .inl (.ref 82)), (1, .inl (.long v))], [.inl (.int (v >>> (k.toInt64 &&& 63)).toInt32)], A, 0, 0)) rfl rfl rfl) ?_
  refine zi_rc_c (zi_run_1 (g := (14, [(3, .inl (.int k)), (0, .inl (.ref 82)), (1, .inl (.long v))], [.inl (.int (Int16.ofInt 255).toInt32), .inl (.int (v >>> (k.toInt64 &&& 63)).toInt32)], A, 0, 0)) rfl rfl rfl) ?_
  refine zi_rc_c (zi_run_1 (g := (15, [(3, .inl (.int k)), (0, .inl (.ref 82)), (1, .inl (.long v))], [.inl (.int (zi_bm v k))], A, 0, 0)) rfl rfl rfl) ?_
  refine zi_rc_c (zi_run_1 (g := (17, [(4, .inl (.int (zi_bm v k))), (3, .inl (.int k)), (0, .inl (.ref 82)), (1, .inl (.long v))], [], A, 0, 0)) rfl rfl rfl) ?_
  refine zi_rc_c (zi_run_1 (g := (19, [(4, .inl (.int (zi_bm v k))), (3, .inl (.int k)), (0, .inl (.ref 82)), (1, .inl (.long v))], [.inl (.int (zi_bm v k))], A, 0, 0)) rfl rfl rfl) ?_
  refine zi_rc_c (zi_run_1 (g := (21, [(4, .inl (.int (zi_bm v k))), (3, .inl (.int k)), (0, .inl (.ref 82)), (1, .inl (.long v))], [.inl (.int (Int8.ofInt 10).toInt32), .inl (.int (zi_bm v k))], A, 0, 0)) rfl rfl rfl) ?_
  exact zi_rc_0
theorem zi_qA2 {call : zi_K} (v : Int64) (k : Int32) (A : List zi_C) (d : zi_V) (hk : zi_test .lt (.inl (.int k)) (.inl (.int 0)) = some false) : zi_rc call zi_m39 (3, [(3, .inl (.int k)), (4, d), (0, .inl (.ref 82)), (1, .inl (.long v))], [], A, 0, 0) (21, [(4, .inl (.int (zi_bm v k))), (3, .inl (.int k)), (0, .inl (.ref 82)), (1, .inl (.long v))], [.inl (.int (Int8.ofInt 10).toInt32), .inl (.int (zi_bm v k))], A, 0, 0) 11 := by
  refine zi_rc_c (zi_run_1 (g := (4, [(3, .inl (.int k)), (4, d), (0, .inl (.ref 82)), (1, .inl (.long v))], [.inl (.int k)], A, 0, 0)) rfl rfl rfl) ?_
  refine zi_rc_c (zi_run_1 (g := (7, [(3, .inl (.int k)), (4, d), (0, .inl (.ref 82)), (1, .inl (.long v))], [], A, 0, 0)) rfl (show zi_if1 .lt 4 3 ([(3, .inl (.int k)), (4, d), (0, .inl (.ref 82)), (1, .inl (.long v))]) [.inl (.int k)] A 0 0 75 = some (.inl (7, [(3, .inl (.int k)), (4, d), (0, .inl (.ref 82)), (1, .inl (.long v))], [], A, 0, 0)) from zi_if1_s false hk) rfl) ?_
  refine zi_rc_c (zi_run_1 (g := (8, [(3, .inl (.int k)), (4, d), (0, .inl (.ref 82)), (1, .inl (.long v))], [.inl (.long v)], A, 0, 0)) rfl rfl rfl) ?_
  refine zi_rc_c (zi_run_1 (g := (9, [(3, .inl (.int k)), (4, d), (0, .inl (.ref 82)), (1, .inl (.long v))], [.inl (.int k), .inl (.long v)], A, 0, 0)) rfl rfl rfl) ?_
  refine zi_rc_c (zi_run_1 (g := (10, [(3, .inl (.int k)), (4, d), (0, .inl (.ref 82)), (1, .inl (.long v))], [.inl (.long (v >>> (k.toInt64 &&& 63)))], A, 0, 0)) rfl rfl rfl) ?_
  refine zi_rc_c (zi_run_1 (g := (11, [(3, .inl (.int k)), (4, d), (0, .inl (.ref 82)), (1, .inl (.long v))], [.inl (.int (v >>> (k.toInt64 &&& 63)).toInt32)], A, 0, 0)) rfl rfl rfl) ?_
  refine zi_rc_c (zi_run_1 (g := (14, [(3, .inl (.int k)), (4, d), (0, .inl (.ref 82)), (1, .inl (.long v))], [.inl (.int (Int16.ofInt 255).toInt32), .inl (.int (v >>> (k.toInt64 &&& 63)).toInt32)], A, 0, 0)) rfl rfl rfl) ?_
  refine zi_rc_c (zi_run_1 (g := (15, [(3, .inl (.int k)), (4, d), (0, .inl (.ref 82)), (1, .inl (.long v))], [.inl (.int (zi_bm v k))], A, 0, 0)) rfl rfl rfl) ?_
  refine zi_rc_c (zi_run_1 (g := (17, [(4, .inl (.int (zi_bm v k))), (3, .inl (.int k)), (0, .inl (.ref 82)), (1, .inl (.long v))], [], A, 0, 0)) rfl rfl rfl) ?_
  refine zi_rc_c (zi_run_1 (g := (19, [(4, .inl (.int (zi_bm v k))), (3, .inl (.int k)), (0, .inl (.ref 82)), (1, .inl (.long v))], [.inl (.int (zi_bm v k))], A, 0, 0)) rfl rfl rfl) ?_
  refine zi_rc_c (zi_run_1 (g := (21, [(4, .inl (.int (zi_bm v k))), (3, .inl (.int k)), (0, .inl (.ref 82)), (1, .inl (.long v))], [.inl (.int (Int8.ofInt 10).toInt32), .inl (.int (zi_bm v k))], A, 0, 0)) rfl rfl rfl) ?_
  exact zi_rc_0
theorem zi_qB {call : zi_K} (v : Int64) (c k : Int32) (A : List zi_C) : zi_rc call zi_m39 (21, (4, .inl (.int c)) :: (3, .inl (.int k)) :: (0, .inl (.ref 82)) :: (1, .inl (.long v)) :: [], [.inl (.int (Int8.ofInt 10).toInt32), .inl (.int c)], A, 0, 0) (bif zi_fb c then 38 else 69, (4, .inl (.int c)) :: (3, .inl (.int k)) :: (0, .inl (.ref 82)) :: (1, .inl (.long v)) :: [], [], A, 0, 0) 12 := by
  by_cases h10 : c = 10
  · refine zi_rc_c (zi_run_1 (g := (38, (4, .inl (.int c)) :: (3, .inl (.int k)) :: (0, .inl (.ref 82)) :: (1, .inl (.long v)) :: [], [], A, 0, 0)) rfl (zi_if2_s true (by rw [zi_c10, zi_teq]; simp [h10])) rfl) ?_
    rw [show zi_fb c = true by unfold zi_fb; simp [*]]
    exact zi_rc_0
  · refine zi_rc_c (zi_run_1 (g := (24, (4, .inl (.int c)) :: (3, .inl (.int k)) :: (0, .inl (.ref 82)) :: (1, .inl (.long v)) :: [], [], A, 0, 0)) rfl (zi_if2_s false (by rw [zi_c10, zi_teq]; simp [h10])) rfl) ?_
    refine zi_rc_c (zi_run_1 (g := (26, (4, .inl (.int c)) :: (3, .inl (.int k)) :: (0, .inl (.ref 82)) :: (1, .inl (.long v)) :: [], [.inl (.int c)], A, 0, 0)) rfl rfl rfl) ?_
    refine zi_rc_c (zi_run_1 (g := (28, (4, .inl (.int c)) :: (3, .inl (.int k)) :: (0, .inl (.ref 82)) :: (1, .inl (.long v)) :: [], [.inl (.int (Int8.ofInt 32).toInt32), .inl (.int c)], A, 0, 0)) rfl rfl rfl) ?_
    by_cases h32 : c < 32
    · refine zi_rc_c (zi_run_1 (g := (69, (4, .inl (.int c)) :: (3, .inl (.int k)) :: (0, .inl (.ref 82)) :: (1, .inl (.long v)) :: [], [], A, 0, 0)) rfl (zi_if2_s true (by rw [zi_c32, zi_tlt]; simp [h32])) rfl) ?_
      rw [show zi_fb c = false by unfold zi_fb; simp [*]]
      exact zi_rc_0
    · refine zi_rc_c (zi_run_1 (g := (31, (4, .inl (.int c)) :: (3, .inl (.int k)) :: (0, .inl (.ref 82)) :: (1, .inl (.long v)) :: [], [], A, 0, 0)) rfl (zi_if2_s false (by rw [zi_c32, zi_tlt]; simp [h32])) rfl) ?_
      refine zi_rc_c (zi_run_1 (g := (33, (4, .inl (.int c)) :: (3, .inl (.int k)) :: (0, .inl (.ref 82)) :: (1, .inl (.long v)) :: [], [.inl (.int c)], A, 0, 0)) rfl rfl rfl) ?_
      refine zi_rc_c (zi_run_1 (g := (35, (4, .inl (.int c)) :: (3, .inl (.int k)) :: (0, .inl (.ref 82)) :: (1, .inl (.long v)) :: [], [.inl (.int (Int8.ofInt 126).toInt32), .inl (.int c)], A, 0, 0)) rfl rfl rfl) ?_
      by_cases h126 : 126 < c
      · refine zi_rc_c (zi_run_1 (g := (69, (4, .inl (.int c)) :: (3, .inl (.int k)) :: (0, .inl (.ref 82)) :: (1, .inl (.long v)) :: [], [], A, 0, 0)) rfl (zi_if2_s true (by rw [zi_c126, zi_tgt]; simp [h126])) rfl) ?_
        rw [show zi_fb c = false by unfold zi_fb; simp [*]]
        exact zi_rc_0
      · refine zi_rc_c (zi_run_1 (g := (38, (4, .inl (.int c)) :: (3, .inl (.int k)) :: (0, .inl (.ref 82)) :: (1, .inl (.long v)) :: [], [], A, 0, 0)) rfl (zi_if2_s false (by rw [zi_c126, zi_tgt]; simp [h126])) rfl) ?_
        rw [show zi_fb c = true by unfold zi_fb; simp [*]]
        exact zi_rc_0
theorem zi_qC0 {call : zi_K} (v : Int64) (c k : Int32) (A : List zi_C) : zi_rc call zi_m39 (69, (4, .inl (.int c)) :: (3, .inl (.int k)) :: (0, .inl (.ref 82)) :: (1, .inl (.long v)) :: [], [], A, 0, 0) (3, (3, .inl (.int (k + Int32.ofInt (-8)))) :: (4, .inl (.int c)) :: (0, .inl (.ref 82)) :: (1, .inl (.long v)) :: [], [], A, 0, 0) 2 := by
  refine zi_rc_c (zi_run_1 (g := (72, (3, .inl (.int (k + Int32.ofInt (-8)))) :: (4, .inl (.int c)) :: (0, .inl (.ref 82)) :: (1, .inl (.long v)) :: [], [], A, 0, 0)) rfl rfl rfl) ?_
  refine zi_rc_c (zi_run_1 (g := (3, (3, .inl (.int (k + Int32.ofInt (-8)))) :: (4, .inl (.int c)) :: (0, .inl (.ref 82)) :: (1, .inl (.long v)) :: [], [], A, 0, 0)) rfl rfl rfl) ?_
  exact zi_rc_0
theorem zi_qC1 {call : zi_K} (v : Int64) (c k : Int32) (A : List zi_C) {j : Nat} (hj : j < 1000) (hP : zi_Pq 72 73 11 0 1 2 A j) : ∃ A', zi_Pq 72 73 11 0 1 2 A' (j + 1) ∧ zi_Kq 72 73 A A' ∧ zi_rc call zi_m39 (38, (4, .inl (.int c)) :: (3, .inl (.int k)) :: (0, .inl (.ref 82)) :: (1, .inl (.long v)) :: [], [], A, 0, 0) (69, (4, .inl (.int c)) :: (3, .inl (.int k)) :: (0, .inl (.ref 82)) :: (1, .inl (.long v)) :: [], [], A', 0, 0) 24 := by
  obtain ⟨⟨fs, h1, h2, h3⟩, us, h4⟩ := hP
  have l3 : 2 < fs.length := (List.getElem?_eq_some_iff.mp h3).1
  have hQ := zi_Pq_put (io := 72) (ia := 73) (ka := 1) (kf := 2) (by decide) (by decide) h1 h2 h3 h4 ((nI j).toNatClampNeg, .inl (.int c)) (zi_one j)
  have h5 : (A.set 73 (.inr (0, 1000, .inl (.int 0), ((nI j).toNatClampNeg, .inl (.int c)) :: us)))[72]? = some (.inl (11, fs)) := by rw [List.getElem?_set_ne (by decide)]; exact h1
  refine ⟨((A.set 73 (.inr (0, 1000, .inl (.int 0), ((nI j).toNatClampNeg, .inl (.int c)) :: us))).set 72 (.inl (11, fs.set 2 (.inl (.int (nI j + Int32.ofInt 1)))))), hQ.1, hQ.2, ?_⟩
  refine zi_rc_c (zi_run_1 (g := (39, (4, .inl (.int c)) :: (3, .inl (.int k)) :: (0, .inl (.ref 82)) :: (1, .inl (.long v)) :: [], [.inl (.ref 82)], A, 0, 0)) rfl rfl rfl) ?_
  refine zi_rc_c (zi_run_1 (g := (42, (4, .inl (.int c)) :: (3, .inl (.int k)) :: (0, .inl (.ref 82)) :: (1, .inl (.long v)) :: [], [.inl (.int (nI j))], A, 0, 0)) rfl (show zi_get 39 3 ((4, .inl (.int c)) :: (3, .inl (.int k)) :: (0, .inl (.ref 82)) :: (1, .inl (.long v)) :: []) [.inl (.ref 82)] A 0 0 11 2 = some (.inl (42, (4, .inl (.int c)) :: (3, .inl (.int k)) :: (0, .inl (.ref 82)) :: (1, .inl (.long v)) :: [], [.inl (.int (nI j))], A, 0, 0)) from zi_get_s rfl h1 h3) rfl) ?_
  refine zi_rc_c (zi_run_1 (g := (45, (4, .inl (.int c)) :: (3, .inl (.int k)) :: (0, .inl (.ref 82)) :: (1, .inl (.long v)) :: [], [.inl (.int (Int16.ofInt 1000).toInt32), .inl (.int (nI j))], A, 0, 0)) rfl rfl rfl) ?_
  refine zi_rc_c (zi_run_1 (g := (48, (4, .inl (.int c)) :: (3, .inl (.int k)) :: (0, .inl (.ref 82)) :: (1, .inl (.long v)) :: [], [], A, 0, 0)) rfl (show zi_if2 .ge 45 3 ((4, .inl (.int c)) :: (3, .inl (.int k)) :: (0, .inl (.ref 82)) :: (1, .inl (.long v)) :: []) [.inl (.int (Int16.ofInt 1000).toInt32), .inl (.int (nI j))] A 0 0 69 = some (.inl (48, (4, .inl (.int c)) :: (3, .inl (.int k)) :: (0, .inl (.ref 82)) :: (1, .inl (.long v)) :: [], [], A, 0, 0)) from zi_if2_s false (by rw [zi_c1000, zi_tge]; simp [nI_ge hj (by decide)])) rfl) ?_
  refine zi_rc_c (zi_run_1 (g := (49, (4, .inl (.int c)) :: (3, .inl (.int k)) :: (0, .inl (.ref 82)) :: (1, .inl (.long v)) :: [], [.inl (.ref 82)], A, 0, 0)) rfl rfl rfl) ?_
  refine zi_rc_c (zi_run_1 (g := (52, (4, .inl (.int c)) :: (3, .inl (.int k)) :: (0, .inl (.ref 82)) :: (1, .inl (.long v)) :: [], [.inl (.ref 83)], A, 0, 0)) rfl (show zi_get 49 3 ((4, .inl (.int c)) :: (3, .inl (.int k)) :: (0, .inl (.ref 82)) :: (1, .inl (.long v)) :: []) [.inl (.ref 82)] A 0 0 11 1 = some (.inl (52, (4, .inl (.int c)) :: (3, .inl (.int k)) :: (0, .inl (.ref 82)) :: (1, .inl (.long v)) :: [], [.inl (.ref 83)], A, 0, 0)) from zi_get_s rfl h1 h2) rfl) ?_
  refine zi_rc_c (zi_run_1 (g := (53, (4, .inl (.int c)) :: (3, .inl (.int k)) :: (0, .inl (.ref 82)) :: (1, .inl (.long v)) :: [], [.inl (.ref 82), .inl (.ref 83)], A, 0, 0)) rfl rfl rfl) ?_
  refine zi_rc_c (zi_run_1 (g := (56, (4, .inl (.int c)) :: (3, .inl (.int k)) :: (0, .inl (.ref 82)) :: (1, .inl (.long v)) :: [], [.inl (.int (nI j)), .inl (.ref 83)], A, 0, 0)) rfl (show zi_get 53 3 ((4, .inl (.int c)) :: (3, .inl (.int k)) :: (0, .inl (.ref 82)) :: (1, .inl (.long v)) :: []) [.inl (.ref 82), .inl (.ref 83)] A 0 0 11 2 = some (.inl (56, (4, .inl (.int c)) :: (3, .inl (.int k)) :: (0, .inl (.ref 82)) :: (1, .inl (.long v)) :: [], [.inl (.int (nI j)), .inl (.ref 83)], A, 0, 0)) from zi_get_s rfl h1 h3) rfl) ?_
  refine zi_rc_c (zi_run_1 (g := (58, (4, .inl (.int c)) :: (3, .inl (.int k)) :: (0, .inl (.ref 82)) :: (1, .inl (.long v)) :: [], [.inl (.int c), .inl (.int (nI j)), .inl (.ref 83)], A, 0, 0)) rfl rfl rfl) ?_
  refine zi_rc_c (zi_run_1 (g := (59, (4, .inl (.int c)) :: (3, .inl (.int k)) :: (0, .inl (.ref 82)) :: (1, .inl (.long v)) :: [], [], (A.set 73 (.inr (0, 1000, .inl (.int 0), ((nI j).toNatClampNeg, .inl (.int c)) :: us))), 0, 0)) rfl (show zi_ast 0 58 1 ((4, .inl (.int c)) :: (3, .inl (.int k)) :: (0, .inl (.ref 82)) :: (1, .inl (.long v)) :: []) [.inl (.int c), .inl (.int (nI j)), .inl (.ref 83)] A 0 0 = some (.inl (59, (4, .inl (.int c)) :: (3, .inl (.int k)) :: (0, .inl (.ref 82)) :: (1, .inl (.long v)) :: [], [], (A.set 73 (.inr (0, 1000, .inl (.int 0), ((nI j).toNatClampNeg, .inl (.int c)) :: us))), 0, 0)) from zi_ast_s rfl h4 (zi_in_nI hj (by decide)) rfl) rfl) ?_
  refine zi_rc_c (zi_run_1 (g := (60, (4, .inl (.int c)) :: (3, .inl (.int k)) :: (0, .inl (.ref 82)) :: (1, .inl (.long v)) :: [], [.inl (.ref 82)], (A.set 73 (.inr (0, 1000, .inl (.int 0), ((nI j).toNatClampNeg, .inl (.int c)) :: us))), 0, 0)) rfl rfl rfl) ?_
  refine zi_rc_c (zi_run_1 (g := (61, (4, .inl (.int c)) :: (3, .inl (.int k)) :: (0, .inl (.ref 82)) :: (1, .inl (.long v)) :: [], [.inl (.ref 82), .inl (.ref 82)], (A.set 73 (.inr (0, 1000, .inl (.int 0), ((nI j).toNatClampNeg, .inl (.int c)) :: us))), 0, 0)) rfl rfl rfl) ?_
  refine zi_rc_c (zi_run_1 (g := (64, (4, .inl (.int c)) :: (3, .inl (.int k)) :: (0, .inl (.ref 82)) :: (1, .inl (.long v)) :: [], [.inl (.int (nI j)), .inl (.ref 82)], (A.set 73 (.inr (0, 1000, .inl (.int 0), ((nI j).toNatClampNeg, .inl (.int c)) :: us))), 0, 0)) rfl (show zi_get 61 3 ((4, .inl (.int c)) :: (3, .inl (.int k)) :: (0, .inl (.ref 82)) :: (1, .inl (.long v)) :: []) [.inl (.ref 82), .inl (.ref 82)] (A.set 73 (.inr (0, 1000, .inl (.int 0), ((nI j).toNatClampNeg, .inl (.int c)) :: us))) 0 0 11 2 = some (.inl (64, (4, .inl (.int c)) :: (3, .inl (.int k)) :: (0, .inl (.ref 82)) :: (1, .inl (.long v)) :: [], [.inl (.int (nI j)), .inl (.ref 82)], (A.set 73 (.inr (0, 1000, .inl (.int 0), ((nI j).toNatClampNeg, .inl (.int c)) :: us))), 0, 0)) from zi_get_s rfl h5 h3) rfl) ?_
  refine zi_rc_c (zi_run_1 (g := (65, (4, .inl (.int c)) :: (3, .inl (.int k)) :: (0, .inl (.ref 82)) :: (1, .inl (.long v)) :: [], [.inl (.int (Int32.ofInt 1)), .inl (.int (nI j)), .inl (.ref 82)], (A.set 73 (.inr (0, 1000, .inl (.int 0), ((nI j).toNatClampNeg, .inl (.int c)) :: us))), 0, 0)) rfl rfl rfl) ?_
  refine zi_rc_c (zi_run_1 (g := (66, (4, .inl (.int c)) :: (3, .inl (.int k)) :: (0, .inl (.ref 82)) :: (1, .inl (.long v)) :: [], [.inl (.int (nI j + Int32.ofInt 1)), .inl (.ref 82)], (A.set 73 (.inr (0, 1000, .inl (.int 0), ((nI j).toNatClampNeg, .inl (.int c)) :: us))), 0, 0)) rfl rfl rfl) ?_
  refine zi_rc_c (zi_run_1 (g := (69, (4, .inl (.int c)) :: (3, .inl (.int k)) :: (0, .inl (.ref 82)) :: (1, .inl (.long v)) :: [], [], ((A.set 73 (.inr (0, 1000, .inl (.int 0), ((nI j).toNatClampNeg, .inl (.int c)) :: us))).set 72 (.inl (11, fs.set 2 (.inl (.int (nI j + Int32.ofInt 1)))))), 0, 0)) rfl (show zi_put 66 3 ((4, .inl (.int c)) :: (3, .inl (.int k)) :: (0, .inl (.ref 82)) :: (1, .inl (.long v)) :: []) [.inl (.int (nI j + Int32.ofInt 1)), .inl (.ref 82)] (A.set 73 (.inr (0, 1000, .inl (.int 0), ((nI j).toNatClampNeg, .inl (.int c)) :: us))) 0 0 11 2 = some (.inl (69, (4, .inl (.int c)) :: (3, .inl (.int k)) :: (0, .inl (.ref 82)) :: (1, .inl (.long v)) :: [], [], ((A.set 73 (.inr (0, 1000, .inl (.int 0), ((nI j).toNatClampNeg, .inl (.int c)) :: us))).set 72 (.inl (11, fs.set 2 (.inl (.int (nI j + Int32.ofInt 1)))))), 0, 0)) from zi_put_s rfl h5 l3 (zi_fit_int _)) rfl) ?_
  exact zi_rc_0
theorem zi_it39 {call : zi_K} (v : Int64) {k k' : Int32} (hk : zi_test .lt (.inl (.int k)) (.inl (.int 0)) = some false) (hk' : k + Int32.ofInt (-8) = k') (hb : zi_by v k = zi_bm v k) {A : List zi_C} {j : Nat} (hj : j < 1000) (hP : zi_Pq 72 73 11 0 1 2 A j) {X : List (Nat × zi_V)} (hX : X = (0, .inl (.ref 82)) :: (1, .inl (.long v)) :: [] ∨ ∃ d : zi_V, X = (4, d) :: (0, .inl (.ref 82)) :: (1, .inl (.long v)) :: []) :
    ∃ (A' : List zi_C) (X' : List (Nat × zi_V)), zi_Pq 72 73 11 0 1 2 A' (zi_av (zi_by v k) j) ∧ zi_Kq 72 73 A A' ∧ (∃ d : zi_V, X' = (4, d) :: (0, .inl (.ref 82)) :: (1, .inl (.long v)) :: []) ∧ zi_rc call zi_m39 (3, (3, .inl (.int k)) :: X, [], A, 0, 0) (3, (3, .inl (.int k')) :: X', [], A', 0, 0) 50 := by
  subst hk'
  have h1 : zi_rc call zi_m39 (3, (3, .inl (.int k)) :: X, [], A, 0, 0) (21, (4, .inl (.int (zi_by v k))) :: (3, .inl (.int k)) :: (0, .inl (.ref 82)) :: (1, .inl (.long v)) :: [], [.inl (.int (Int8.ofInt 10).toInt32), .inl (.int (zi_by v k))], A, 0, 0) 11 := by
    rw [hb]
    rcases hX with rfl | ⟨d, rfl⟩
    · exact zi_qA1 v k A hk
    · exact zi_qA2 v k A d hk
  have h12 := zi_rc_t h1 (zi_qB (call := call) v (zi_by v k) k A)
  unfold zi_av
  cases hf : zi_fb (zi_by v k) with
  | false =>
    rw [hf] at h12
    exact ⟨A, _, hP, fun _ _ _ => rfl, ⟨_, rfl⟩, zi_rc_w (zi_rc_t h12 (zi_qC0 v (zi_by v k) k A)) (by decide)⟩
  | true =>
    rw [hf] at h12
    obtain ⟨A', hP', hK', h3⟩ := zi_qC1 (call := call) v (zi_by v k) k A hj hP
    exact ⟨A', _, hP', hK', ⟨_, rfl⟩, zi_rc_w (zi_rc_t (zi_rc_t h12 h3) (zi_qC0 v (zi_by v k) k A')) (by decide)⟩
/-- all eight bytes -/
theorem zi_ev40 {d : Nat} (v : Int64) {A : List zi_C} {j : Nat} (hj : j + 8 ≤ 1000) (hP : zi_Pq 2 3 2 3 0 5 A j) : ∃ A', zi_ev zi_Ms 100000 (d + 1) 40 [.inl (.ref 12), .inl (.long v)] A = some (none, A', 0, 0) ∧ zi_Pq 2 3 2 3 0 5 A' (zi_sg v j) ∧ zi_Kq 2 3 A A' := by
  have r0 : zi_rc (zi_ev zi_Ms 100000 d) zi_m40 (0, zi_ent 0 [.inl (.ref 12), .inl (.long v)], [], A, 0, 0) (3, (3, .inl (.int 56)) :: (0, .inl (.ref 12)) :: (1, .inl (.long v)) :: [], [], A, 0, 0) 2 := by
    refine zi_rc_c (zi_run_1 (g := (2, (0, .inl (.ref 12)) :: (1, .inl (.long v)) :: [], [.inl (.int (Int8.ofInt 56).toInt32)], A, 0, 0)) rfl rfl rfl) ?_
    rw [zi_c56]
    refine zi_rc_c (zi_run_1 (g := (3, (3, .inl (.int 56)) :: (0, .inl (.ref 12)) :: (1, .inl (.long v)) :: [], [], A, 0, 0)) rfl rfl rfl) ?_
    exact zi_rc_0
  have b1 := zi_av_le (zi_by v 56) (j)
  obtain ⟨A1, X1, p1, k1, x1, r1⟩ := zi_it40 (call := zi_ev zi_Ms 100000 d) v (k := 56) (k' := 48) (by decide +kernel) (by decide +kernel) (by omega) hP (Or.inl rfl)
  have b2 := zi_av_le (zi_by v 48) (zi_av (zi_by v 56) (j))
  obtain ⟨A2, X2, p2, k2, x2, r2⟩ := zi_it40 (call := zi_ev zi_Ms 100000 d) v (k := 48) (k' := 40) (by decide +kernel) (by decide +kernel) (by omega) p1 (Or.inr x1)
  have b3 := zi_av_le (zi_by v 40) (zi_av (zi_by v 48) (zi_av (zi_by v 56) (j)))
  obtain ⟨A3, X3, p3, k3, x3, r3⟩ := zi_it40 (call := zi_ev zi_Ms 100000 d) v (k := 40) (k' := 32) (by decide +kernel) (by decide +kernel) (by omega) p2 (Or.inr x2)
  have b4 := zi_av_le (zi_by v 32) (zi_av (zi_by v 40) (zi_av (zi_by v 48) (zi_av (zi_by v 56) (j))))
  obtain ⟨A4, X4, p4, k4, x4, r4⟩ := zi_it40 (call := zi_ev zi_Ms 100000 d) v (k := 32) (k' := 24) (by decide +kernel) (by decide +kernel) (by omega) p3 (Or.inr x3)
  have b5 := zi_av_le (zi_by v 24) (zi_av (zi_by v 32) (zi_av (zi_by v 40) (zi_av (zi_by v 48) (zi_av (zi_by v 56) (j)))))
  obtain ⟨A5, X5, p5, k5, x5, r5⟩ := zi_it40 (call := zi_ev zi_Ms 100000 d) v (k := 24) (k' := 16) (by decide +kernel) (by decide +kernel) (by omega) p4 (Or.inr x4)
  have b6 := zi_av_le (zi_by v 16) (zi_av (zi_by v 24) (zi_av (zi_by v 32) (zi_av (zi_by v 40) (zi_av (zi_by v 48) (zi_av (zi_by v 56) (j))))))
  obtain ⟨A6, X6, p6, k6, x6, r6⟩ := zi_it40 (call := zi_ev zi_Ms 100000 d) v (k := 16) (k' := 8) (by decide +kernel) (by decide +kernel) (by omega) p5 (Or.inr x5)
  have b7 := zi_av_le (zi_by v 8) (zi_av (zi_by v 16) (zi_av (zi_by v 24) (zi_av (zi_by v 32) (zi_av (zi_by v 40) (zi_av (zi_by v 48) (zi_av (zi_by v 56) (j)))))))
  obtain ⟨A7, X7, p7, k7, x7, r7⟩ := zi_it40 (call := zi_ev zi_Ms 100000 d) v (k := 8) (k' := 0) (by decide +kernel) (by decide +kernel) (by omega) p6 (Or.inr x6)
  have b8 := zi_av_le (zi_by v 0) (zi_av (zi_by v 8) (zi_av (zi_by v 16) (zi_av (zi_by v 24) (zi_av (zi_by v 32) (zi_av (zi_by v 40) (zi_av (zi_by v 48) (zi_av (zi_by v 56) (j))))))))
  obtain ⟨A8, X8, p8, k8, x8, r8⟩ := zi_it40 (call := zi_ev zi_Ms 100000 d) v (k := 0) (k' := (-8)) (by decide +kernel) (by decide +kernel) (by omega) p7 (Or.inr x7)
  have r := zi_rc_t (zi_rc_t (zi_rc_t (zi_rc_t (zi_rc_t (zi_rc_t (zi_rc_t (zi_rc_t r0 r1) r2) r3) r4) r5) r6) r7) r8
  have r9 : zi_rc (zi_ev zi_Ms 100000 d) zi_m40 (3, (3, .inl (.int (-8))) :: X8, [], A8, 0, 0) (90, (3, .inl (.int (-8))) :: X8, [], A8, 0, 0) 2 := by
    refine zi_rc_c (zi_run_1 (g := (4, (3, .inl (.int (-8))) :: X8, [.inl (.int (-8))], A8, 0, 0)) rfl rfl rfl) ?_
    refine zi_rc_c (zi_run_1 (g := (90, (3, .inl (.int (-8))) :: X8, [], A8, 0, 0)) rfl (show zi_if1 .lt 4 3 ((3, .inl (.int (-8))) :: X8) [.inl (.int (-8))] A8 0 0 90 = some (.inl (90, (3, .inl (.int (-8))) :: X8, [], A8, 0, 0)) from zi_if1_s true (by decide +kernel)) rfl) ?_
    exact zi_rc_0
  refine ⟨A8, ?_, p8, zi_Kq_t (zi_Kq_t (zi_Kq_t (zi_Kq_t (zi_Kq_t (zi_Kq_t (zi_Kq_t k1 k2) k3) k4) k5) k6) k7) k8⟩
  show (bif Nat.ble (zi_cats [.inl (.ref 12), .inl (.long v)]) zi_m40.2.2.1 then zi_loop (zi_ev zi_Ms 100000 d) zi_m40 100000 (0, zi_ent 0 [.inl (.ref 12), .inl (.long v)], [], A, 0, 0) else none) = some (none, A8, 0, 0)
  have e9 : zi_loop (zi_ev zi_Ms 100000 d) zi_m40 100000 (0, zi_ent 0 [.inl (.ref 12), .inl (.long v)], [], A, 0, 0) = some (none, A8, 0, 0) := zi_rc_end (zi_rc_t r r9) (zi_loop_e rfl rfl rfl) (Nat.le_of_ble_eq_true rfl)
  rw [show Nat.ble (zi_cats [.inl (.ref 12), .inl (.long v)]) zi_m40.2.2.1 = true from rfl, cond_true]
  exact e9
/-- all eight bytes -/
theorem zi_ev39 {d : Nat} (v : Int64) {A : List zi_C} {j : Nat} (hj : j + 8 ≤ 1000) (hP : zi_Pq 72 73 11 0 1 2 A j) : ∃ A', zi_ev zi_Ms 100000 (d + 1) 39 [.inl (.ref 82), .inl (.long v)] A = some (none, A', 0, 0) ∧ zi_Pq 72 73 11 0 1 2 A' (zi_sg v j) ∧ zi_Kq 72 73 A A' := by
  have r0 : zi_rc (zi_ev zi_Ms 100000 d) zi_m39 (0, zi_ent 0 [.inl (.ref 82), .inl (.long v)], [], A, 0, 0) (3, (3, .inl (.int 56)) :: (0, .inl (.ref 82)) :: (1, .inl (.long v)) :: [], [], A, 0, 0) 2 := by
    refine zi_rc_c (zi_run_1 (g := (2, (0, .inl (.ref 82)) :: (1, .inl (.long v)) :: [], [.inl (.int (Int8.ofInt 56).toInt32)], A, 0, 0)) rfl rfl rfl) ?_
    rw [zi_c56]
    refine zi_rc_c (zi_run_1 (g := (3, (3, .inl (.int 56)) :: (0, .inl (.ref 82)) :: (1, .inl (.long v)) :: [], [], A, 0, 0)) rfl rfl rfl) ?_
    exact zi_rc_0
  have b1 := zi_av_le (zi_by v 56) (j)
  obtain ⟨A1, X1, p1, k1, x1, r1⟩ := zi_it39 (call := zi_ev zi_Ms 100000 d) v (k := 56) (k' := 48) (by decide +kernel) (by decide +kernel) (zi_byt v _ _ 56 (by decide) (by decide +kernel) (by decide +kernel)) (by omega) hP (Or.inl rfl)
  have b2 := zi_av_le (zi_by v 48) (zi_av (zi_by v 56) (j))
  obtain ⟨A2, X2, p2, k2, x2, r2⟩ := zi_it39 (call := zi_ev zi_Ms 100000 d) v (k := 48) (k' := 40) (by decide +kernel) (by decide +kernel) (zi_byt v _ _ 48 (by decide) (by decide +kernel) (by decide +kernel)) (by omega) p1 (Or.inr x1)
  have b3 := zi_av_le (zi_by v 40) (zi_av (zi_by v 48) (zi_av (zi_by v 56) (j)))
  obtain ⟨A3, X3, p3, k3, x3, r3⟩ := zi_it39 (call := zi_ev zi_Ms 100000 d) v (k := 40) (k' := 32) (by decide +kernel) (by decide +kernel) (zi_byt v _ _ 40 (by decide) (by decide +kernel) (by decide +kernel)) (by omega) p2 (Or.inr x2)
  have b4 := zi_av_le (zi_by v 32) (zi_av (zi_by v 40) (zi_av (zi_by v 48) (zi_av (zi_by v 56) (j))))
  obtain ⟨A4, X4, p4, k4, x4, r4⟩ := zi_it39 (call := zi_ev zi_Ms 100000 d) v (k := 32) (k' := 24) (by decide +kernel) (by decide +kernel) (zi_byt v _ _ 32 (by decide) (by decide +kernel) (by decide +kernel)) (by omega) p3 (Or.inr x3)
  have b5 := zi_av_le (zi_by v 24) (zi_av (zi_by v 32) (zi_av (zi_by v 40) (zi_av (zi_by v 48) (zi_av (zi_by v 56) (j)))))
  obtain ⟨A5, X5, p5, k5, x5, r5⟩ := zi_it39 (call := zi_ev zi_Ms 100000 d) v (k := 24) (k' := 16) (by decide +kernel) (by decide +kernel) (zi_byt v _ _ 24 (by decide) (by decide +kernel) (by decide +kernel)) (by omega) p4 (Or.inr x4)
  have b6 := zi_av_le (zi_by v 16) (zi_av (zi_by v 24) (zi_av (zi_by v 32) (zi_av (zi_by v 40) (zi_av (zi_by v 48) (zi_av (zi_by v 56) (j))))))
  obtain ⟨A6, X6, p6, k6, x6, r6⟩ := zi_it39 (call := zi_ev zi_Ms 100000 d) v (k := 16) (k' := 8) (by decide +kernel) (by decide +kernel) (zi_byt v _ _ 16 (by decide) (by decide +kernel) (by decide +kernel)) (by omega) p5 (Or.inr x5)
  have b7 := zi_av_le (zi_by v 8) (zi_av (zi_by v 16) (zi_av (zi_by v 24) (zi_av (zi_by v 32) (zi_av (zi_by v 40) (zi_av (zi_by v 48) (zi_av (zi_by v 56) (j)))))))
  obtain ⟨A7, X7, p7, k7, x7, r7⟩ := zi_it39 (call := zi_ev zi_Ms 100000 d) v (k := 8) (k' := 0) (by decide +kernel) (by decide +kernel) (zi_byt v _ _ 8 (by decide) (by decide +kernel) (by decide +kernel)) (by omega) p6 (Or.inr x6)
  have b8 := zi_av_le (zi_by v 0) (zi_av (zi_by v 8) (zi_av (zi_by v 16) (zi_av (zi_by v 24) (zi_av (zi_by v 32) (zi_av (zi_by v 40) (zi_av (zi_by v 48) (zi_av (zi_by v 56) (j))))))))
  obtain ⟨A8, X8, p8, k8, x8, r8⟩ := zi_it39 (call := zi_ev zi_Ms 100000 d) v (k := 0) (k' := (-8)) (by decide +kernel) (by decide +kernel) (zi_byt v _ _ 0 (by decide) (by decide +kernel) (by decide +kernel)) (by omega) p7 (Or.inr x7)
  have r := zi_rc_t (zi_rc_t (zi_rc_t (zi_rc_t (zi_rc_t (zi_rc_t (zi_rc_t (zi_rc_t r0 r1) r2) r3) r4) r5) r6) r7) r8
  have r9 : zi_rc (zi_ev zi_Ms 100000 d) zi_m39 (3, (3, .inl (.int (-8))) :: X8, [], A8, 0, 0) (75, (3, .inl (.int (-8))) :: X8, [], A8, 0, 0) 2 := by
    refine zi_rc_c (zi_run_1 (g := (4, (3, .inl (.int (-8))) :: X8, [.inl (.int (-8))], A8, 0, 0)) rfl rfl rfl) ?_
    refine zi_rc_c (zi_run_1 (g := (75, (3, .inl (.int (-8))) :: X8, [], A8, 0, 0)) rfl (show zi_if1 .lt 4 3 ((3, .inl (.int (-8))) :: X8) [.inl (.int (-8))] A8 0 0 75 = some (.inl (75, (3, .inl (.int (-8))) :: X8, [], A8, 0, 0)) from zi_if1_s true (by decide +kernel)) rfl) ?_
    exact zi_rc_0
  refine ⟨A8, ?_, p8, zi_Kq_t (zi_Kq_t (zi_Kq_t (zi_Kq_t (zi_Kq_t (zi_Kq_t (zi_Kq_t k1 k2) k3) k4) k5) k6) k7) k8⟩
  show (bif Nat.ble (zi_cats [.inl (.ref 82), .inl (.long v)]) zi_m39.2.2.1 then zi_loop (zi_ev zi_Ms 100000 d) zi_m39 100000 (0, zi_ent 0 [.inl (.ref 82), .inl (.long v)], [], A, 0, 0) else none) = some (none, A8, 0, 0)
  have e9 : zi_loop (zi_ev zi_Ms 100000 d) zi_m39 100000 (0, zi_ent 0 [.inl (.ref 82), .inl (.long v)], [], A, 0, 0) = some (none, A8, 0, 0) := zi_rc_end (zi_rc_t r r9) (zi_loop_e rfl rfl rfl) (Nat.le_of_ble_eq_true rfl)
  rw [show Nat.ble (zi_cats [.inl (.ref 82), .inl (.long v)]) zi_m39.2.2.1 = true from rfl, cond_true]
  exact e9
