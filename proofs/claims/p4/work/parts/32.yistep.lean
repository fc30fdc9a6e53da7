/-! The first interpreter follows the second one. -/
theorem yi_rem32 (x y : Int32) : (x - x / y * y).toInt = x.toInt.tmod y.toInt := by
  rw [Int32.toInt_sub, Int32.toInt_mul, Int32.toInt_div, Int.bmod_mul_bmod, Int.sub_bmod_bmod]
  have e : x.toInt - x.toInt.tdiv y.toInt * y.toInt = x.toInt.tmod y.toInt := by
    have := Int.tmod_add_mul_tdiv x.toInt y.toInt
    have h2 := Int.mul_comm y.toInt (x.toInt.tdiv y.toInt)
    omega
  rw [e, ← Int32.toInt_mod]
  have h1 := Int32.le_toInt (x % y)
  have h2 := Int32.toInt_lt (x % y)
  rw [yi_wb]
  unfold yi_w
  omega
theorem yi_rem64 (x y : Int64) : (x - x / y * y).toInt = x.toInt.tmod y.toInt := by
  rw [Int64.toInt_sub, Int64.toInt_mul, Int64.toInt_div, Int.bmod_mul_bmod, Int.sub_bmod_bmod]
  have e : x.toInt - x.toInt.tdiv y.toInt * y.toInt = x.toInt.tmod y.toInt := by
    have := Int.tmod_add_mul_tdiv x.toInt y.toInt
    have h2 := Int.mul_comm y.toInt (x.toInt.tdiv y.toInt)
    omega
  rw [e, ← Int64.toInt_mod]
  have h1 := Int64.le_toInt (x % y)
  have h2 := Int64.toInt_lt (x % y)
  rw [yi_Wb]
  unfold yi_W
  omega
theorem yi_i2c (x : Int32) : ((x.toUInt32 % 65536).toInt32).toInt = x.toInt % 65536 := by
  have h1 : (x.toUInt32 % 65536).toInt32 = nI (x.toUInt32.toNat % 65536) := by
    apply Int32.toBitVec_inj.mp
    apply BitVec.eq_of_toNat_eq
    show (x.toUInt32 % 65536).toNat = (x.toUInt32.toNat % 65536) % 2 ^ 32
    rw [UInt32.toNat_mod, show (65536 : UInt32).toNat = 65536 from rfl]
    omega
  rw [h1, nI_toInt (by omega)]
  have h2 : x.toInt = x.toBitVec.toInt := rfl
  have h3 : x.toUInt32.toNat = x.toBitVec.toNat := rfl
  rw [h2, h3, BitVec.toInt_eq_toNat_cond]
  split <;> omega
theorem yi_i2b (x : Int32) : (x.toInt8.toInt32).toInt = yi_bt x.toInt := by
  rw [Int8.toInt_toInt32, Int32.toInt_toInt8]
  unfold yi_bt
  rw [Int.bmod_def]
  omega
theorem yi_clamp {x : Int32} (h : 0 ≤ x.toInt) : x.toNatClampNeg = x.toInt.toNat := rfl
section YS
variable {pc n : Nat} {al : List (Nat × yi_V)} {zal : List (Nat × zi_V)} {st : List yi_V} {zst : List zi_V} {H : yi_H} {A : List zi_C} {nc ns : Nat}
def yi_B (al : List (Nat × yi_V)) (zal : List (Nat × zi_V)) (st : List yi_V) (zst : List zi_V) (H : yi_H) (A : List zi_C) : Prop := zi_F2 yi_lr al zal ∧ zi_F2 yi_vr st zst ∧ yi_hr H A
theorem yi_mk (h1 : zi_F2 yi_lr al zal) (h2 : zi_F2 yi_vr st zst) (h3 : yi_hr H A) : yi_or (some (.inl (pc, al, st, H, nc, ns))) (some (.inl (pc, zal, zst, A, nc, ns))) := ⟨_, rfl, rfl, h1, h2, h3, rfl, rfl⟩
theorem yi_top {v : yi_V} {r : List yi_V} (h : zi_F2 yi_vr (v :: r) zst) : ∃ w zr, zst = w :: zr ∧ yi_vr v w ∧ zi_F2 yi_vr r zr := zi_F2_cons h
theorem yi_top_i {z : Int} {r : List yi_V} (h : zi_F2 yi_vr (.inl z :: r) zst) : ∃ (x : Int32) (zr : List zi_V), zst = .inl (.int x) :: zr ∧ z = x.toInt ∧ zi_F2 yi_vr r zr := by
  obtain ⟨w, zr, rfl, ⟨x, rfl, e⟩, h2⟩ := zi_F2_cons h
  exact ⟨x, zr, rfl, e.symm, h2⟩
theorem yi_top_l {z : Int} {r : List yi_V} (h : zi_F2 yi_vr (.inr (.inl z) :: r) zst) : ∃ (x : Int64) (zr : List zi_V), zst = .inl (.long x) :: zr ∧ z = x.toInt ∧ zi_F2 yi_vr r zr := by
  obtain ⟨w, zr, rfl, ⟨x, rfl, e⟩, h2⟩ := zi_F2_cons h
  exact ⟨x, zr, rfl, e.symm, h2⟩
theorem yi_top_r {p : Nat} {r : List yi_V} (h : zi_F2 yi_vr (.inr (.inr (some p)) :: r) zst) : ∃ zr : List zi_V, zst = .inl (.ref p) :: zr ∧ zi_F2 yi_vr r zr := by
  obtain ⟨w, zr, rfl, e, h2⟩ := zi_F2_cons h
  have e : w = .inl (.ref p) := e
  subst e
  exact ⟨zr, rfl, h2⟩
theorem yi_top_n {r : List yi_V} (h : zi_F2 yi_vr (.inr (.inr none) :: r) zst) : ∃ zr : List zi_V, zst = .inl .null :: zr ∧ zi_F2 yi_vr r zr := by
  obtain ⟨w, zr, rfl, e, h2⟩ := zi_F2_cons h
  have e : w = .inl .null := e
  subst e
  exact ⟨zr, rfl, h2⟩
theorem yi_ps_ok (h : yi_B al zal st zst H A) {v : yi_V} {w : zi_V} (hv : yi_vr v w) : yi_or (yi_ps pc n al st H nc ns v) (zi_ps pc n zal zst A nc ns w) := yi_mk h.1 ⟨hv, h.2.1⟩ h.2.2
theorem yi_ld_ok (h : yi_B al zal st zst H A) (i k : Nat) : yi_or (yi_ld pc n al st H nc ns i k) (zi_ld pc n zal zst A nc ns i k) := by
  unfold yi_ld
  split
  · rename_i v hv
    obtain ⟨w, hw, hr⟩ := yi_loc_ok h.1 hv
    unfold zi_ld
    rw [hw]
    dsimp only
    rw [yi_vr_kd hr]
    cases Nat.beq (yi_kd v) k with
    | true => exact yi_mk h.1 ⟨hr, h.2.1⟩ h.2.2
    | false => trivial
  · trivial
theorem yi_lda_ok (h : yi_B al zal st zst H A) (i : Nat) : yi_or (yi_lda pc n al st H nc ns i) (zi_lda pc n zal zst A nc ns i) := by
  unfold yi_lda
  split
  · rename_i v hv
    obtain ⟨w, hw, hr⟩ := yi_loc_ok h.1 hv
    unfold zi_lda
    rw [hw]
    dsimp only
    rw [yi_vr_kd hr]
    cases Nat.ble 2 (yi_kd v) with
    | true => exact yi_mk h.1 ⟨hr, h.2.1⟩ h.2.2
    | false => trivial
  · trivial
theorem yi_sti_ok (h : yi_B al zal st zst H A) (nL i : Nat) : yi_or (yi_sti pc n al st H nc ns nL i) (zi_sti pc n nL zal zst A nc ns i) := by
  unfold yi_sti
  split
  · rename_i v r
    obtain ⟨w, zr, rfl, hr, h2⟩ := yi_top h.2.1
    unfold zi_sti
    dsimp only
    rw [yi_vr_kd hr]
    cases (Nat.beq (yi_kd v) 0 && Nat.ble (i + 1) nL) with
    | true => exact yi_mk ⟨⟨rfl, hr⟩, yi_del1_ok i h.1⟩ h2 h.2.2
    | false => trivial
  · trivial
theorem yi_sta_ok (h : yi_B al zal st zst H A) (nL i : Nat) : yi_or (yi_sta pc n al st H nc ns nL i) (zi_sta pc n nL zal zst A nc ns i) := by
  unfold yi_sta
  split
  · rename_i v r
    obtain ⟨w, zr, rfl, hr, h2⟩ := yi_top h.2.1
    unfold zi_sta
    dsimp only
    rw [yi_vr_kd hr]
    cases (Nat.ble 2 (yi_kd v) && Nat.ble (i + 1) nL) with
    | true => exact yi_mk ⟨⟨rfl, hr⟩, yi_del1_ok i h.1⟩ h2 h.2.2
    | false => trivial
  · trivial
theorem yi_stl_ok (h : yi_B al zal st zst H A) (nL i : Nat) : yi_or (yi_stl pc n al st H nc ns nL i) (zi_stl pc n nL zal zst A nc ns i) := by
  unfold yi_stl
  split
  · rename_i v r
    obtain ⟨w, zr, rfl, hr, h2⟩ := yi_top h.2.1
    unfold zi_stl
    dsimp only
    rw [yi_vr_kd hr]
    cases (Nat.beq (yi_kd v) 1 && Nat.ble (i + 2) nL) with
    | true => exact yi_mk ⟨⟨rfl, hr⟩, yi_del2_ok i h.1⟩ h2 h.2.2
    | false => trivial
  · trivial
theorem yi_w_add (a b : Int) : yi_w (a + yi_w b) = yi_w (a + b) := by
  unfold yi_w
  omega
theorem yi_ofInt (k : Int) : (Int32.ofInt k).toInt = yi_w k := by
  rw [Int32.toInt_ofInt]
  exact yi_wb k
theorem yi_inc_ok (h : yi_B al zal st zst H A) (nL i : Nat) (k : Int) : yi_or (yi_inc pc n al st H nc ns nL i k) (zi_inc pc n nL zal zst A nc ns i k) := by
  unfold yi_inc
  split
  · rename_i z hv
    obtain ⟨w, hw, ⟨x, rfl, e⟩⟩ := yi_loc_ok h.1 hv
    unfold zi_inc
    rw [hw]
    dsimp only
    cases Nat.ble (i + 1) nL with
    | true =>
      refine yi_mk ⟨⟨rfl, ⟨_, rfl, ?_⟩⟩, yi_del1_ok i h.1⟩ h.2.1 h.2.2
      rw [Int32.toInt_add, yi_wb, yi_ofInt, yi_w_add, e]
    | false => trivial
  · trivial
theorem yi_ii_ok {op : Int → Int → Int} {zop : Int32 → Int32 → Int32} (hop : ∀ x y, (zop x y).toInt = op x.toInt y.toInt) (h : yi_B al zal st zst H A) : yi_or (yi_ii pc n al st H nc ns op) (zi_ii zop pc n zal zst A nc ns) := by
  unfold yi_ii
  split
  · obtain ⟨y', zr, rfl, rfl, h2⟩ := yi_top_i h.2.1
    obtain ⟨x', zr, rfl, rfl, h3⟩ := yi_top_i h2
    exact yi_mk h.1 ⟨⟨_, rfl, hop x' y'⟩, h3⟩ h.2.2
  · trivial
theorem yi_zero {y : Int32} : (y = 0) ↔ y.toInt = 0 := by
  rw [zi_ieq]
  rfl
theorem yi_zeroL {y : Int64} : (y = 0) ↔ y.toInt = 0 := by
  rw [← Int64.toInt_inj]
  rfl
theorem yi_iz_ok {op : Int → Int → Int} {zop : Int32 → Int32 → Int32} (hop : ∀ x y, (zop x y).toInt = op x.toInt y.toInt) (h : yi_B al zal st zst H A) : yi_or (yi_iz pc n al st H nc ns op) (zi_iz zop pc n zal zst A nc ns) := by
  unfold yi_iz
  split
  · obtain ⟨y', zr, rfl, rfl, h2⟩ := yi_top_i h.2.1
    obtain ⟨x', zr, rfl, rfl, h3⟩ := yi_top_i h2
    unfold zi_iz
    dsimp only
    rw [show decide (y' = 0) = decide (y'.toInt = 0) from decide_eq_decide.mpr yi_zero]
    cases decide (y'.toInt = 0) with
    | true => trivial
    | false => exact yi_mk h.1 ⟨⟨_, rfl, hop x' y'⟩, h3⟩ h.2.2
  · trivial
theorem yi_ll_ok {op : Int → Int → Int} {zop : Int64 → Int64 → Int64} (hop : ∀ x y, (zop x y).toInt = op x.toInt y.toInt) (h : yi_B al zal st zst H A) : yi_or (yi_ll pc n al st H nc ns op) (zi_ll zop pc n zal zst A nc ns) := by
  unfold yi_ll
  split
  · obtain ⟨y', zr, rfl, rfl, h2⟩ := yi_top_l h.2.1
    obtain ⟨x', zr, rfl, rfl, h3⟩ := yi_top_l h2
    exact yi_mk h.1 ⟨⟨_, rfl, hop x' y'⟩, h3⟩ h.2.2
  · trivial
theorem yi_lz_ok {op : Int → Int → Int} {zop : Int64 → Int64 → Int64} (hop : ∀ x y, (zop x y).toInt = op x.toInt y.toInt) (h : yi_B al zal st zst H A) : yi_or (yi_lz pc n al st H nc ns op) (zi_lz zop pc n zal zst A nc ns) := by
  unfold yi_lz
  split
  · obtain ⟨y', zr, rfl, rfl, h2⟩ := yi_top_l h.2.1
    obtain ⟨x', zr, rfl, rfl, h3⟩ := yi_top_l h2
    unfold zi_lz
    dsimp only
    rw [show decide (y' = 0) = decide (y'.toInt = 0) from decide_eq_decide.mpr yi_zeroL]
    cases decide (y'.toInt = 0) with
    | true => trivial
    | false => exact yi_mk h.1 ⟨⟨_, rfl, hop x' y'⟩, h3⟩ h.2.2
  · trivial
theorem yi_lc_ok (h : yi_B al zal st zst H A) : yi_or (yi_lc pc n al st H nc ns) (zi_lc pc n zal zst A nc ns) := by
  unfold yi_lc
  split
  · obtain ⟨y', zr, rfl, rfl, h2⟩ := yi_top_l h.2.1
    obtain ⟨x', zr, rfl, rfl, h3⟩ := yi_top_l h2
    refine yi_mk h.1 ⟨⟨_, rfl, ?_⟩, h3⟩ h.2.2
    unfold lg_cmp yi_lcmp
    by_cases c1 : x' > y'
    · have c2 : y'.toInt < x'.toInt := Int64.lt_iff_toInt_lt.mp c1
      rw [if_pos c1, if_pos c2]
      rfl
    · have c2 : ¬ y'.toInt < x'.toInt := fun z => c1 (Int64.lt_iff_toInt_lt.mpr z)
      rw [if_neg c1, if_neg c2]
      by_cases c3 : x' = y'
      · rw [if_pos c3, if_pos (by rw [c3])]
        rfl
      · rw [if_neg c3, if_neg (fun z => c3 (Int64.toInt_inj.mp z))]
        rfl
  · trivial
theorem yi_lw_ok {op : Int → Int → Int} {zop : Int64 → Int32 → Int64} (hop : ∀ x y, (zop x y).toInt = op x.toInt y.toInt) (h : yi_B al zal st zst H A) : yi_or (yi_lw pc n al st H nc ns op) (zi_lw zop pc n zal zst A nc ns) := by
  unfold yi_lw
  split
  · obtain ⟨y', zr, rfl, rfl, h2⟩ := yi_top_i h.2.1
    obtain ⟨x', zr, rfl, rfl, h3⟩ := yi_top_l h2
    exact yi_mk h.1 ⟨⟨_, rfl, hop x' y'⟩, h3⟩ h.2.2
  · trivial
theorem yi_i1_ok {op : Int → yi_V} {zop : Int32 → Value} (hop : ∀ x, yi_vr (op x.toInt) (.inl (zop x))) (h : yi_B al zal st zst H A) : yi_or (yi_i1 pc n al st H nc ns op) (zi_i1 zop pc n zal zst A nc ns) := by
  unfold yi_i1
  split
  · obtain ⟨y', zr, rfl, rfl, h2⟩ := yi_top_i h.2.1
    exact yi_mk h.1 ⟨hop y', h2⟩ h.2.2
  · trivial
theorem yi_l1_ok {op : Int → yi_V} {zop : Int64 → Value} (hop : ∀ x, yi_vr (op x.toInt) (.inl (zop x))) (h : yi_B al zal st zst H A) : yi_or (yi_l1 pc n al st H nc ns op) (zi_l1 zop pc n zal zst A nc ns) := by
  unfold yi_l1
  split
  · obtain ⟨y', zr, rfl, rfl, h2⟩ := yi_top_l h.2.1
    exact yi_mk h.1 ⟨hop y', h2⟩ h.2.2
  · trivial
theorem yi_dup_ok (h : yi_B al zal st zst H A) : yi_or (yi_dup pc n al st H nc ns) (zi_dup pc n zal zst A nc ns) := by
  unfold yi_dup
  split
  · rename_i v r
    obtain ⟨w, zr, rfl, hr, h2⟩ := yi_top h.2.1
    unfold zi_dup
    dsimp only
    rw [yi_vr_cat hr]
    cases Nat.beq (yi_cat v) 1 with
    | true => exact yi_mk h.1 ⟨hr, hr, h2⟩ h.2.2
    | false => trivial
  · trivial
theorem yi_pop_ok (h : yi_B al zal st zst H A) : yi_or (yi_pop pc n al st H nc ns) (zi_pop pc n zal zst A nc ns) := by
  unfold yi_pop
  split
  · rename_i v r
    obtain ⟨w, zr, rfl, hr, h2⟩ := yi_top h.2.1
    unfold zi_pop
    dsimp only
    rw [yi_vr_cat hr]
    cases Nat.beq (yi_cat v) 1 with
    | true => exact yi_mk h.1 h2 h.2.2
    | false => trivial
  · trivial
theorem yi_dup2_ok (h : yi_B al zal st zst H A) : yi_or (yi_dup2 pc n al st H nc ns) (zi_dup2 pc n zal zst A nc ns) := by
  unfold yi_dup2
  split
  · rename_i v u r
    obtain ⟨w, zr, rfl, hr, h2⟩ := yi_top h.2.1
    obtain ⟨w', zr, rfl, hr', h3⟩ := yi_top h2
    unfold zi_dup2
    dsimp only
    rw [yi_vr_cat hr, yi_vr_cat hr']
    cases Nat.beq (yi_cat v) 2 with
    | true => exact yi_mk h.1 ⟨hr, hr, hr', h3⟩ h.2.2
    | false =>
      cases Nat.beq (yi_cat u) 1 with
      | true => exact yi_mk h.1 ⟨hr, hr', hr, hr', h3⟩ h.2.2
      | false => trivial
  · trivial
theorem yi_br_ok {q : Bool} {tgt : Nat} (h1 : zi_F2 yi_lr al zal) (h2 : zi_F2 yi_vr st zst) (h3 : yi_hr H A) : yi_or (yi_br pc n al H nc ns tgt q st) (zi_br pc n zal zst A nc ns tgt (some q)) := by
  cases q with
  | true => exact yi_mk h1 h2 h3
  | false => exact yi_mk h1 h2 h3
theorem yi_if1_ok (h : yi_B al zal st zst H A) (c : ClassFile.Cond) (tgt : Nat) : yi_or (yi_if1 pc n al st H nc ns c tgt) (zi_if1 c pc n zal zst A nc ns tgt) := by
  unfold yi_if1
  split
  · obtain ⟨y', zr, rfl, rfl, h2⟩ := yi_top_i h.2.1
    show yi_or _ (zi_br pc n zal zr A nc ns tgt (zi_test c (.inl (.int y')) (.inl (.int 0))))
    rw [yi_test]
    exact yi_br_ok h.1 h2 h.2.2
  · trivial
theorem yi_if2_ok (h : yi_B al zal st zst H A) (c : ClassFile.Cond) (tgt : Nat) : yi_or (yi_if2 pc n al st H nc ns c tgt) (zi_if2 c pc n zal zst A nc ns tgt) := by
  unfold yi_if2
  split
  · obtain ⟨y', zr, rfl, rfl, h2⟩ := yi_top_i h.2.1
    obtain ⟨x', zr, rfl, rfl, h3⟩ := yi_top_i h2
    show yi_or _ (zi_br pc n zal zr A nc ns tgt (zi_test c (.inl (.int x')) (.inl (.int y'))))
    rw [yi_test]
    exact yi_br_ok h.1 h3 h.2.2
  · trivial
theorem yi_nul_ok (h : yi_B al zal st zst H A) (k : Bool) (tgt : Nat) : yi_or (yi_nul pc n al st H nc ns k tgt) (zi_nul k pc n zal zst A nc ns tgt) := by
  unfold yi_nul
  split
  · obtain ⟨zr, rfl, h2⟩ := yi_top_n h.2.1
    exact yi_br_ok h.1 h2 h.2.2
  · obtain ⟨zr, rfl, h2⟩ := yi_top_r h.2.1
    exact yi_br_ok h.1 h2 h.2.2
  · trivial
theorem yi_tsw_ok (h : yi_B al zal st zst H A) (lo hi : Int) (o : List Nat) : yi_or (yi_tsw al st H nc ns lo hi o) (zi_tsw lo hi zal zst A nc ns o) := by
  unfold yi_tsw
  split
  · rename_i z r d ts
    obtain ⟨y', zr, rfl, rfl, h2⟩ := yi_top_i h.2.1
    show yi_or _ (bif decide (y'.toInt < lo) || decide (hi < y'.toInt) then some (.inl (d, zal, zr, A, nc, ns)) else bif decide (y' = y') && !decide (y'.toInt < lo) && !decide (hi < y'.toInt) then (match ts[(y'.toInt - lo).toNat]? with | some t => some (.inl (t, zal, zr, A, nc, ns)) | none => none) else none)
    by_cases c1 : y'.toInt < lo
    · simp only [c1, decide_true, Bool.true_or, cond_true]
      exact yi_mk h.1 h2 h.2.2
    · by_cases c2 : hi < y'.toInt
      · simp only [c2, decide_true, Bool.or_true, cond_true]
        exact yi_mk h.1 h2 h.2.2
      · simp only [c1, c2, decide_false, Bool.or_false, cond_false, decide_true, Bool.not_false, Bool.and_true, cond_true]
        cases ts[(y'.toInt - lo).toNat]? with
        | none => trivial
        | some t => exact yi_mk h.1 h2 h.2.2
  · trivial
theorem yi_lsw_ok (h : yi_B al zal st zst H A) (d : Int) (ps : List (Int × Int)) : yi_or (yi_lsw pc al st H nc ns d ps) (zi_lsw d ps pc zal zst A nc ns) := by
  unfold yi_lsw
  split
  · obtain ⟨y', zr, rfl, rfl, h2⟩ := yi_top_i h.2.1
    unfold zi_lsw
    dsimp only
    cases decide (0 ≤ (pc : Int) + Op.lookupswitch.offset ps d y'.toInt) with
    | true => exact yi_mk h.1 h2 h.2.2
    | false => trivial
  · trivial
end YS
