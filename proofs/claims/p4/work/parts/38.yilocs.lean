/-! The locals as a map: more of them, in another order, do no harm. -/
def yi_uq (al : List (Nat × yi_V)) : Prop := (al.map (fun q => q.1)).Nodup
def yi_le (al al' : List (Nat × yi_V)) : Prop := ∀ q ∈ al, q ∈ al'
theorem yi_loc_mem : ∀ {al : List (Nat × yi_V)}, yi_uq al → ∀ {j : Nat} {v : yi_V}, yi_loc al j = some v ↔ (j, v) ∈ al
  | [], _, j, v => ⟨fun h => (by cases h), fun h => (by cases h)⟩
  | q :: al, hu, j, v => by
    have hu' : (q.1 :: al.map (fun q => q.1)).Nodup := hu
    rw [List.nodup_cons] at hu'
    have e : yi_loc (q :: al) j = bif Nat.beq q.1 j then some q.2 else yi_loc al j := rfl
    rw [e, List.mem_cons]
    cases hb : Nat.beq q.1 j with
    | true =>
      have hj := Nat.eq_of_beq_eq_true hb
      subst hj
      constructor
      · intro h
        left
        have h : q.2 = v := Option.some.inj h
        rw [← h]
      · intro h
        rcases h with h | h
        · rw [← h]
          rfl
        · exact absurd (List.mem_map.mpr ⟨_, h, rfl⟩) hu'.1
    | false =>
      have hj := Nat.ne_of_beq_eq_false hb
      constructor
      · intro h
        exact Or.inr ((yi_loc_mem hu'.2).mp h)
      · intro h
        rcases h with h | h
        · exact absurd (by rw [← h]) hj
        · exact (yi_loc_mem hu'.2).mpr h
theorem yi_del1_f (i : Nat) : ∀ al : List (Nat × yi_V), yi_del1 i al = al.filter (fun q => !(Nat.beq q.1 i) && !(Nat.beq (q.1 + 1) i && Nat.beq (yi_cat q.2) 2))
  | [] => rfl
  | q :: al => by
    have e : yi_del1 i (q :: al) = bif (!(Nat.beq q.1 i) && !(Nat.beq (q.1 + 1) i && Nat.beq (yi_cat q.2) 2)) then q :: yi_del1 i al else yi_del1 i al := rfl
    rw [e, yi_del1_f i al, List.filter_cons]
    cases (!(Nat.beq q.1 i) && !(Nat.beq (q.1 + 1) i && Nat.beq (yi_cat q.2) 2)) <;> rfl
theorem yi_del2_f (i : Nat) : ∀ al : List (Nat × yi_V), yi_del2 i al = al.filter (fun q => !(Nat.beq q.1 i) && (!(Nat.beq q.1 (i + 1)) && !(Nat.beq (q.1 + 1) i && Nat.beq (yi_cat q.2) 2)))
  | [] => rfl
  | q :: al => by
    have e : yi_del2 i (q :: al) = bif (!(Nat.beq q.1 i) && (!(Nat.beq q.1 (i + 1)) && !(Nat.beq (q.1 + 1) i && Nat.beq (yi_cat q.2) 2))) then q :: yi_del2 i al else yi_del2 i al := rfl
    rw [e, yi_del2_f i al, List.filter_cons]
    cases (!(Nat.beq q.1 i) && (!(Nat.beq q.1 (i + 1)) && !(Nat.beq (q.1 + 1) i && Nat.beq (yi_cat q.2) 2))) <;> rfl
theorem yi_uq_f {al : List (Nat × yi_V)} (f : Nat × yi_V → Bool) (h : yi_uq al) : yi_uq (al.filter f) := List.Nodup.sublist (List.Sublist.map _ List.filter_sublist) h
theorem yi_uq_c {al : List (Nat × yi_V)} {i : Nat} {v : yi_V} {f : Nat × yi_V → Bool} (hf : ∀ q, f q = true → q.1 ≠ i) (h : yi_uq al) : yi_uq ((i, v) :: al.filter f) := by
  show (i :: (al.filter f).map (fun q => q.1)).Nodup
  rw [List.nodup_cons]
  refine ⟨fun hm => ?_, yi_uq_f f h⟩
  obtain ⟨q, h1, h2⟩ := List.mem_map.mp hm
  exact hf q (List.mem_filter.mp h1).2 h2
theorem yi_le_c {al al' : List (Nat × yi_V)} {x : Nat × yi_V} (f : Nat × yi_V → Bool) (h : yi_le al al') : yi_le (x :: al.filter f) (x :: al'.filter f) := by
  intro q hq
  rcases List.mem_cons.mp hq with e | e
  · rw [e]; exact List.mem_cons_self
  · obtain ⟨h1, h2⟩ := List.mem_filter.mp e
    exact List.mem_cons_of_mem _ (List.mem_filter.mpr ⟨h q h1, h2⟩)
def yi_sa (al' : List (Nat × yi_V)) (o : yi_O) : yi_O := match o with
  | some (.inl g) => some (.inl (g.1, al', g.2.2))
  | some (.inr v) => some (.inr v)
  | none => none
theorem yi_sa_b {al' : List (Nat × yi_V)} {c : Bool} {a b a' b' : yi_O} (h1 : a' = yi_sa al' a) (h2 : b' = yi_sa al' b) : (bif c then a' else b') = yi_sa al' (bif c then a else b) := by
  cases c with
  | true => exact h1
  | false => exact h2
section YA
variable {pc n : Nat} {al al' : List (Nat × yi_V)} {st : List yi_V} {H : yi_H} {nc ns : Nat}
theorem yi_sa_ii {op : Int → Int → Int} : yi_ii pc n al' st H nc ns op = yi_sa al' (yi_ii pc n al st H nc ns op) := by
  unfold yi_ii
  split <;> rfl
theorem yi_sa_iz {op : Int → Int → Int} : yi_iz pc n al' st H nc ns op = yi_sa al' (yi_iz pc n al st H nc ns op) := by
  unfold yi_iz
  split
  · exact yi_sa_b rfl rfl
  · rfl
theorem yi_sa_ll {op : Int → Int → Int} : yi_ll pc n al' st H nc ns op = yi_sa al' (yi_ll pc n al st H nc ns op) := by
  unfold yi_ll
  split <;> rfl
theorem yi_sa_lz {op : Int → Int → Int} : yi_lz pc n al' st H nc ns op = yi_sa al' (yi_lz pc n al st H nc ns op) := by
  unfold yi_lz
  split
  · exact yi_sa_b rfl rfl
  · rfl
theorem yi_sa_lc : yi_lc pc n al' st H nc ns = yi_sa al' (yi_lc pc n al st H nc ns) := by
  unfold yi_lc
  split <;> rfl
theorem yi_sa_lw {op : Int → Int → Int} : yi_lw pc n al' st H nc ns op = yi_sa al' (yi_lw pc n al st H nc ns op) := by
  unfold yi_lw
  split <;> rfl
theorem yi_sa_i1 {op : Int → yi_V} : yi_i1 pc n al' st H nc ns op = yi_sa al' (yi_i1 pc n al st H nc ns op) := by
  unfold yi_i1
  split <;> rfl
theorem yi_sa_l1 {op : Int → yi_V} : yi_l1 pc n al' st H nc ns op = yi_sa al' (yi_l1 pc n al st H nc ns op) := by
  unfold yi_l1
  split <;> rfl
theorem yi_sa_dup : yi_dup pc n al' st H nc ns = yi_sa al' (yi_dup pc n al st H nc ns) := by
  unfold yi_dup
  split
  · exact yi_sa_b rfl rfl
  · rfl
theorem yi_sa_pop : yi_pop pc n al' st H nc ns = yi_sa al' (yi_pop pc n al st H nc ns) := by
  unfold yi_pop
  split
  · exact yi_sa_b rfl rfl
  · rfl
theorem yi_sa_dup2 : yi_dup2 pc n al' st H nc ns = yi_sa al' (yi_dup2 pc n al st H nc ns) := by
  unfold yi_dup2
  split
  · exact yi_sa_b rfl (yi_sa_b rfl rfl)
  · rfl
theorem yi_sa_if1 {c : ClassFile.Cond} {t : Nat} : yi_if1 pc n al' st H nc ns c t = yi_sa al' (yi_if1 pc n al st H nc ns c t) := by
  unfold yi_if1
  split <;> rfl
theorem yi_sa_if2 {c : ClassFile.Cond} {t : Nat} : yi_if2 pc n al' st H nc ns c t = yi_sa al' (yi_if2 pc n al st H nc ns c t) := by
  unfold yi_if2
  split <;> rfl
theorem yi_sa_nul {k : Bool} {t : Nat} : yi_nul pc n al' st H nc ns k t = yi_sa al' (yi_nul pc n al st H nc ns k t) := by
  unfold yi_nul
  split <;> rfl
theorem yi_sa_tsw {lo hi : Int} {o : List Nat} : yi_tsw  al' st H nc ns lo hi o = yi_sa al' (yi_tsw  al st H nc ns lo hi o) := by
  unfold yi_tsw
  split
  · refine yi_sa_b rfl ?_
    split <;> rfl
  · rfl
theorem yi_sa_lsw {d : Int} {ps : List (Int × Int)} : yi_lsw pc al' st H nc ns d ps = yi_sa al' (yi_lsw pc al st H nc ns d ps) := by
  unfold yi_lsw
  split
  · exact yi_sa_b rfl rfl
  · rfl
theorem yi_sa_get {ci k : Nat} : yi_get pc n al' st H nc ns ci k = yi_sa al' (yi_get pc n al st H nc ns ci k) := by
  unfold yi_get
  split
  · exact yi_sa_b (yi_sa_b rfl rfl) (yi_sa_b (yi_sa_b rfl (yi_sa_b rfl rfl)) rfl)
  · rfl
theorem yi_sa_put {ci k : Nat} : yi_put pc n al' st H nc ns ci k = yi_sa al' (yi_put pc n al st H nc ns ci k) := by
  unfold yi_put
  split
  · exact yi_sa_b rfl rfl
  · rfl
theorem yi_sa_gts {k : Nat} : yi_gts pc n al' st H nc ns k = yi_sa al' (yi_gts pc n al st H nc ns k) := by
  unfold yi_gts
  split <;> rfl
theorem yi_sa_len {sl : List Int} : yi_len pc n al' st H nc ns sl = yi_sa al' (yi_len pc n al st H nc ns sl) := by
  unfold yi_len
  split
  · refine yi_sa_b (yi_sa_b rfl rfl) (yi_sa_b ?_ (yi_sa_b rfl rfl))
    split <;> rfl
  · rfl
theorem yi_sa_ald {t : Nat} {sl : List Int} : yi_ald pc n al' st H nc ns t sl = yi_sa al' (yi_ald pc n al st H nc ns t sl) := by
  unfold yi_ald
  split
  · exact yi_sa_b (yi_sa_b rfl rfl) (yi_sa_b rfl (yi_sa_b rfl rfl))
  · rfl
theorem yi_sa_ast {t : Nat} : yi_ast pc n al' st H nc ns t = yi_sa al' (yi_ast pc n al st H nc ns t) := by
  unfold yi_ast
  split
  · exact yi_sa_b rfl rfl
  · rfl
theorem yi_sa_aas : yi_aas pc n al' st H nc ns = yi_sa al' (yi_aas pc n al st H nc ns) := by
  unfold yi_aas
  split
  · exact yi_sa_b rfl rfl
  · rfl
theorem yi_sa_nwo {ci : Nat} : yi_nwo pc n al' st H nc ns ci = yi_sa al' (yi_nwo pc n al st H nc ns ci) := by
  unfold yi_nwo
  exact yi_sa_b rfl rfl
theorem yi_sa_nwa {t : Nat} : yi_nwa pc n al' st H nc ns t = yi_sa al' (yi_nwa pc n al st H nc ns t) := by
  unfold yi_nwa
  split
  · exact yi_sa_b rfl rfl
  · rfl
theorem yi_sa_mm {z : Nat} : yi_mm pc n al' st H nc ns z = yi_sa al' (yi_mm pc n al st H nc ns z) := by
  unfold yi_mm
  split <;> rfl
theorem yi_sa_obj : yi_obj pc n al' st H nc ns = yi_sa al' (yi_obj pc n al st H nc ns) := by
  unfold yi_obj
  split
  · exact yi_sa_b rfl rfl
  · rfl
theorem yi_sa_inv {call : yi_K} {mi k : Nat} : yi_inv pc n al' st H nc ns call mi k = yi_sa al' (yi_inv pc n al st H nc ns call mi k) := by
  unfold yi_inv
  refine yi_sa_b ?_ rfl
  split
  · split <;> rfl
  · rfl
theorem yi_sa_ret {k : Nat} {ret : Option FieldType} : yi_ret k ret st = yi_sa al' (yi_ret k ret st) := by
  unfold yi_ret
  split
  · exact yi_sa_b rfl rfl
  · rfl
/-- how results belong together -/
def yi_ar (o o' : yi_O) : Prop := match o with
  | some (.inl g) => ∃ al', o' = some (.inl (g.1, al', g.2.2)) ∧ yi_uq g.2.1 ∧ yi_uq al' ∧ yi_le g.2.1 al'
  | some (.inr v) => o' = some (.inr v)
  | none => True
/-- the instructions that keep the locals -/
def yi_kp (o : yi_O) (al : List (Nat × yi_V)) : Prop := match o with
  | some (.inl g) => g.2.1 = al
  | _ => True
theorem yi_ar_sa {o o' : yi_O} (h : yi_uq al ∧ yi_uq al' ∧ yi_le al al') (hk : yi_kp o al) (e : o' = yi_sa al' o) : yi_ar o o' := by
  subst e
  match o, hk with
  | none, _ => trivial
  | some (.inr v), _ => rfl
  | some (.inl g), hk =>
    have hk : g.2.1 = al := hk
    refine ⟨al', rfl, ?_, h.2.1, ?_⟩
    · rw [hk]; exact h.1
    · rw [hk]; exact h.2.2
theorem yi_kp_b {c : Bool} {a b : yi_O} (h1 : yi_kp a al) (h2 : yi_kp b al) : yi_kp (bif c then a else b) al := by
  cases c with
  | true => exact h1
  | false => exact h2
theorem yi_kp_ii {op : Int → Int → Int} : yi_kp (yi_ii pc n al st H nc ns op) al := by
  unfold yi_ii
  split <;> first | rfl | trivial
theorem yi_kp_ll {op : Int → Int → Int} : yi_kp (yi_ll pc n al st H nc ns op) al := by
  unfold yi_ll
  split <;> first | rfl | trivial
theorem yi_kp_lc : yi_kp (yi_lc pc n al st H nc ns) al := by
  unfold yi_lc
  split <;> first | rfl | trivial
theorem yi_kp_lw {op : Int → Int → Int} : yi_kp (yi_lw pc n al st H nc ns op) al := by
  unfold yi_lw
  split <;> first | rfl | trivial
theorem yi_kp_i1 {op : Int → yi_V} : yi_kp (yi_i1 pc n al st H nc ns op) al := by
  unfold yi_i1
  split <;> first | rfl | trivial
theorem yi_kp_l1 {op : Int → yi_V} : yi_kp (yi_l1 pc n al st H nc ns op) al := by
  unfold yi_l1
  split <;> first | rfl | trivial
theorem yi_kp_if1 {c : ClassFile.Cond} {t : Nat} : yi_kp (yi_if1 pc n al st H nc ns c t) al := by
  unfold yi_if1
  split <;> first | rfl | trivial
theorem yi_kp_if2 {c : ClassFile.Cond} {t : Nat} : yi_kp (yi_if2 pc n al st H nc ns c t) al := by
  unfold yi_if2
  split <;> first | rfl | trivial
theorem yi_kp_nul {k : Bool} {t : Nat} : yi_kp (yi_nul pc n al st H nc ns k t) al := by
  unfold yi_nul
  split <;> first | rfl | trivial
theorem yi_kp_gts {k : Nat} : yi_kp (yi_gts pc n al st H nc ns k) al := by
  unfold yi_gts
  split <;> first | rfl | trivial
theorem yi_kp_mm {z : Nat} : yi_kp (yi_mm pc n al st H nc ns z) al := by
  unfold yi_mm
  split <;> first | rfl | trivial
theorem yi_kp_iz {op : Int → Int → Int} : yi_kp (yi_iz pc n al st H nc ns op) al := by
  unfold yi_iz
  split
  · exact yi_kp_b (by first | rfl | trivial) (by first | rfl | trivial)
  · trivial
theorem yi_kp_lz {op : Int → Int → Int} : yi_kp (yi_lz pc n al st H nc ns op) al := by
  unfold yi_lz
  split
  · exact yi_kp_b (by first | rfl | trivial) (by first | rfl | trivial)
  · trivial
theorem yi_kp_dup : yi_kp (yi_dup pc n al st H nc ns) al := by
  unfold yi_dup
  split
  · exact yi_kp_b (by first | rfl | trivial) (by first | rfl | trivial)
  · trivial
theorem yi_kp_pop : yi_kp (yi_pop pc n al st H nc ns) al := by
  unfold yi_pop
  split
  · exact yi_kp_b (by first | rfl | trivial) (by first | rfl | trivial)
  · trivial
theorem yi_kp_put {ci k : Nat} : yi_kp (yi_put pc n al st H nc ns ci k) al := by
  unfold yi_put
  split
  · exact yi_kp_b (by first | rfl | trivial) (by first | rfl | trivial)
  · trivial
theorem yi_kp_ast {t : Nat} : yi_kp (yi_ast pc n al st H nc ns t) al := by
  unfold yi_ast
  split
  · exact yi_kp_b (by first | rfl | trivial) (by first | rfl | trivial)
  · trivial
theorem yi_kp_aas : yi_kp (yi_aas pc n al st H nc ns) al := by
  unfold yi_aas
  split
  · exact yi_kp_b (by first | rfl | trivial) (by first | rfl | trivial)
  · trivial
theorem yi_kp_nwa {t : Nat} : yi_kp (yi_nwa pc n al st H nc ns t) al := by
  unfold yi_nwa
  split
  · exact yi_kp_b (by first | rfl | trivial) (by first | rfl | trivial)
  · trivial
theorem yi_kp_obj : yi_kp (yi_obj pc n al st H nc ns) al := by
  unfold yi_obj
  split
  · exact yi_kp_b (by first | rfl | trivial) (by first | rfl | trivial)
  · trivial
theorem yi_kp_dup2 : yi_kp (yi_dup2 pc n al st H nc ns) al := by
  unfold yi_dup2
  split
  · exact yi_kp_b rfl (yi_kp_b rfl trivial)
  · trivial
theorem yi_kp_tsw {lo hi : Int} {o : List Nat} : yi_kp (yi_tsw  al st H nc ns lo hi o) al := by
  unfold yi_tsw
  split
  · refine yi_kp_b rfl ?_
    split <;> first | rfl | trivial
  · trivial
theorem yi_kp_lsw {d : Int} {ps : List (Int × Int)} : yi_kp (yi_lsw pc al st H nc ns d ps) al := by
  unfold yi_lsw
  split
  · exact yi_kp_b (by first | rfl | trivial) (by first | rfl | trivial)
  · trivial
theorem yi_kp_get {ci k : Nat} : yi_kp (yi_get pc n al st H nc ns ci k) al := by
  unfold yi_get
  split
  · exact yi_kp_b (yi_kp_b rfl trivial) (yi_kp_b (yi_kp_b rfl (yi_kp_b rfl trivial)) trivial)
  · trivial
theorem yi_kp_len {sl : List Int} : yi_kp (yi_len pc n al st H nc ns sl) al := by
  unfold yi_len
  split
  · refine yi_kp_b (yi_kp_b rfl trivial) (yi_kp_b ?_ (yi_kp_b rfl trivial))
    split <;> first | rfl | trivial
  · trivial
theorem yi_kp_ald {t : Nat} {sl : List Int} : yi_kp (yi_ald pc n al st H nc ns t sl) al := by
  unfold yi_ald
  split
  · exact yi_kp_b (yi_kp_b rfl trivial) (yi_kp_b rfl (yi_kp_b rfl trivial))
  · trivial
theorem yi_kp_nwo {ci : Nat} : yi_kp (yi_nwo pc n al st H nc ns ci) al := by
  unfold yi_nwo
  exact yi_kp_b rfl trivial
theorem yi_kp_inv {call : yi_K} {mi k : Nat} : yi_kp (yi_inv pc n al st H nc ns call mi k) al := by
  unfold yi_inv
  refine yi_kp_b ?_ trivial
  split
  · split <;> rfl
  · trivial
theorem yi_kp_ret {k : Nat} {ret : Option FieldType} : yi_kp (yi_ret k ret st) al := by
  unfold yi_ret
  split
  · exact yi_kp_b trivial trivial
  · trivial
theorem yi_ar_ld (h : yi_uq al ∧ yi_uq al' ∧ yi_le al al') (i k : Nat) : yi_ar (yi_ld pc n al st H nc ns i k) (yi_ld pc n al' st H nc ns i k) := by
  cases hv : yi_loc al i with
  | none =>
    unfold yi_ld
    rw [hv]
    trivial
  | some v =>
    have hv' : yi_loc al' i = some v := (yi_loc_mem h.2.1).mpr (h.2.2 _ ((yi_loc_mem h.1).mp hv))
    refine yi_ar_sa h ?_ ?_
    · unfold yi_ld
      rw [hv]
      exact yi_kp_b rfl trivial
    · unfold yi_ld
      rw [hv, hv']
      exact yi_sa_b rfl rfl
theorem yi_ar_lda (h : yi_uq al ∧ yi_uq al' ∧ yi_le al al') (i : Nat) : yi_ar (yi_lda pc n al st H nc ns i) (yi_lda pc n al' st H nc ns i) := by
  cases hv : yi_loc al i with
  | none =>
    unfold yi_lda
    rw [hv]
    trivial
  | some v =>
    have hv' : yi_loc al' i = some v := (yi_loc_mem h.2.1).mpr (h.2.2 _ ((yi_loc_mem h.1).mp hv))
    refine yi_ar_sa h ?_ ?_
    · unfold yi_lda
      rw [hv]
      exact yi_kp_b rfl trivial
    · unfold yi_lda
      rw [hv, hv']
      exact yi_sa_b rfl rfl
theorem yi_d1n {i : Nat} : ∀ q : Nat × yi_V, (!(Nat.beq q.1 i) && !(Nat.beq (q.1 + 1) i && Nat.beq (yi_cat q.2) 2)) = true → q.1 ≠ i := by
  intro q hq e
  rw [e, Nat.beq_refl] at hq
  cases hq
theorem yi_d2n {i : Nat} : ∀ q : Nat × yi_V, (!(Nat.beq q.1 i) && (!(Nat.beq q.1 (i + 1)) && !(Nat.beq (q.1 + 1) i && Nat.beq (yi_cat q.2) 2))) = true → q.1 ≠ i := by
  intro q hq e
  rw [e, Nat.beq_refl] at hq
  cases hq
theorem yi_st1 (h : yi_uq al ∧ yi_uq al' ∧ yi_le al al') (i : Nat) (v : yi_V) : yi_uq ((i, v) :: yi_del1 i al) ∧ yi_uq ((i, v) :: yi_del1 i al') ∧ yi_le ((i, v) :: yi_del1 i al) ((i, v) :: yi_del1 i al') := by
  rw [yi_del1_f, yi_del1_f]
  exact ⟨yi_uq_c yi_d1n h.1, yi_uq_c yi_d1n h.2.1, yi_le_c _ h.2.2⟩
theorem yi_st2 (h : yi_uq al ∧ yi_uq al' ∧ yi_le al al') (i : Nat) (v : yi_V) : yi_uq ((i, v) :: yi_del2 i al) ∧ yi_uq ((i, v) :: yi_del2 i al') ∧ yi_le ((i, v) :: yi_del2 i al) ((i, v) :: yi_del2 i al') := by
  rw [yi_del2_f, yi_del2_f]
  exact ⟨yi_uq_c yi_d2n h.1, yi_uq_c yi_d2n h.2.1, yi_le_c _ h.2.2⟩
theorem yi_ar_sti (h : yi_uq al ∧ yi_uq al' ∧ yi_le al al') (nL i : Nat) : yi_ar (yi_sti pc n al st H nc ns nL i) (yi_sti pc n al' st H nc ns nL i) := by
  unfold yi_sti
  split
  · rename_i v r
    cases (Nat.beq (yi_kd v) 0 && Nat.ble (i + 1) nL) with
    | false => trivial
    | true => exact ⟨_, rfl, yi_st1 h i v⟩
  · trivial
theorem yi_ar_sta (h : yi_uq al ∧ yi_uq al' ∧ yi_le al al') (nL i : Nat) : yi_ar (yi_sta pc n al st H nc ns nL i) (yi_sta pc n al' st H nc ns nL i) := by
  unfold yi_sta
  split
  · rename_i v r
    cases (Nat.ble 2 (yi_kd v) && Nat.ble (i + 1) nL) with
    | false => trivial
    | true => exact ⟨_, rfl, yi_st1 h i v⟩
  · trivial
theorem yi_ar_stl (h : yi_uq al ∧ yi_uq al' ∧ yi_le al al') (nL i : Nat) : yi_ar (yi_stl pc n al st H nc ns nL i) (yi_stl pc n al' st H nc ns nL i) := by
  unfold yi_stl
  split
  · rename_i v r
    cases (Nat.beq (yi_kd v) 1 && Nat.ble (i + 2) nL) with
    | false => trivial
    | true => exact ⟨_, rfl, yi_st2 h i v⟩
  · trivial
theorem yi_ar_inc (h : yi_uq al ∧ yi_uq al' ∧ yi_le al al') (nL i : Nat) (k : Int) : yi_ar (yi_inc pc n al st H nc ns nL i k) (yi_inc pc n al' st H nc ns nL i k) := by
  cases hv : yi_loc al i with
  | none =>
    unfold yi_inc
    rw [hv]
    trivial
  | some v =>
    have hv' : yi_loc al' i = some v := (yi_loc_mem h.2.1).mpr (h.2.2 _ ((yi_loc_mem h.1).mp hv))
    unfold yi_inc
    rw [hv, hv']
    match v with
    | .inl z =>
      dsimp only
      cases Nat.ble (i + 1) nL with
      | false => trivial
      | true => exact ⟨_, rfl, yi_st1 h i _⟩
    | .inr z => trivial
set_option maxHeartbeats 4000000 in
theorem yi_ar_do (h : yi_uq al ∧ yi_uq al' ∧ yi_le al al') {call : yi_K} {sl : List Int} {nL : Nat} {ret : Option FieldType} (i : Instr) (o : List Nat) : yi_ar (yi_do call sl nL ret pc al st H nc ns i n o) (yi_do call sl nL ret pc al' st H nc ns i n o) := by
  cases i with
  | iconst k => exact yi_ar_sa h (yi_kp_b rfl trivial) (yi_sa_b rfl rfl)
  | bipush k => exact yi_ar_sa h (yi_kp_b rfl trivial) (yi_sa_b rfl rfl)
  | sipush k => exact yi_ar_sa h (yi_kp_b rfl trivial) (yi_sa_b rfl rfl)
  | lconst k => exact yi_ar_sa h rfl rfl
  | aconst_null => exact yi_ar_sa h rfl rfl
  | ldc k =>
    match o with
    | 0 :: v :: _ => exact yi_ar_sa h rfl rfl
    | 1 :: r :: _ => exact yi_ar_sa h rfl rfl
    | [] => trivial
    | [0] => trivial
    | [1] => trivial
    | (_ + 2) :: _ => trivial
  | ldc_w k =>
    match o with
    | 0 :: v :: _ => exact yi_ar_sa h rfl rfl
    | [] => trivial
    | [0] => trivial
    | (_ + 1) :: _ => trivial
  | ldc2_w k =>
    match o with
    | v :: _ => exact yi_ar_sa h rfl rfl
    | [] => trivial
  | iload k => exact yi_ar_ld h k 0
  | iload_n k => exact yi_ar_ld h k.val 0
  | lload k => exact yi_ar_ld h k 1
  | lload_n k => exact yi_ar_ld h k.val 1
  | aload k => exact yi_ar_lda h k
  | aload_n k => exact yi_ar_lda h k.val
  | istore k => exact yi_ar_sti h nL k
  | istore_n k => exact yi_ar_sti h nL k.val
  | lstore k => exact yi_ar_stl h nL k
  | lstore_n k => exact yi_ar_stl h nL k.val
  | astore k => exact yi_ar_sta h nL k
  | astore_n k => exact yi_ar_sta h nL k.val
  | iinc k d => exact yi_ar_inc h nL k d
  | iadd => exact yi_ar_sa h yi_kp_ii yi_sa_ii
  | isub => exact yi_ar_sa h yi_kp_ii yi_sa_ii
  | imul => exact yi_ar_sa h yi_kp_ii yi_sa_ii
  | iand => exact yi_ar_sa h yi_kp_ii yi_sa_ii
  | ior => exact yi_ar_sa h yi_kp_ii yi_sa_ii
  | ixor => exact yi_ar_sa h yi_kp_ii yi_sa_ii
  | ishl => exact yi_ar_sa h yi_kp_ii yi_sa_ii
  | ishr => exact yi_ar_sa h yi_kp_ii yi_sa_ii
  | iushr => exact yi_ar_sa h yi_kp_ii yi_sa_ii
  | idiv => exact yi_ar_sa h yi_kp_iz yi_sa_iz
  | irem => exact yi_ar_sa h yi_kp_iz yi_sa_iz
  | ladd => exact yi_ar_sa h yi_kp_ll yi_sa_ll
  | lsub => exact yi_ar_sa h yi_kp_ll yi_sa_ll
  | lmul => exact yi_ar_sa h yi_kp_ll yi_sa_ll
  | land => exact yi_ar_sa h yi_kp_ll yi_sa_ll
  | lor => exact yi_ar_sa h yi_kp_ll yi_sa_ll
  | lxor => exact yi_ar_sa h yi_kp_ll yi_sa_ll
  | ldiv => exact yi_ar_sa h yi_kp_lz yi_sa_lz
  | lrem => exact yi_ar_sa h yi_kp_lz yi_sa_lz
  | lcmp => exact yi_ar_sa h yi_kp_lc yi_sa_lc
  | lshl => exact yi_ar_sa h yi_kp_lw yi_sa_lw
  | lshr => exact yi_ar_sa h yi_kp_lw yi_sa_lw
  | lushr => exact yi_ar_sa h yi_kp_lw yi_sa_lw
  | ineg => exact yi_ar_sa h yi_kp_i1 yi_sa_i1
  | i2l => exact yi_ar_sa h yi_kp_i1 yi_sa_i1
  | i2b => exact yi_ar_sa h yi_kp_i1 yi_sa_i1
  | i2c => exact yi_ar_sa h yi_kp_i1 yi_sa_i1
  | l2i => exact yi_ar_sa h yi_kp_l1 yi_sa_l1
  | lneg => exact yi_ar_sa h yi_kp_l1 yi_sa_l1
  | dup => exact yi_ar_sa h yi_kp_dup yi_sa_dup
  | pop => exact yi_ar_sa h yi_kp_pop yi_sa_pop
  | dup2 => exact yi_ar_sa h yi_kp_dup2 yi_sa_dup2
  | ifCond c off =>
    match o with
    | t :: _ => exact yi_ar_sa h yi_kp_if1 yi_sa_if1
    | [] => trivial
  | if_icmp c off =>
    match o with
    | t :: _ => exact yi_ar_sa h yi_kp_if2 yi_sa_if2
    | [] => trivial
  | goto off =>
    match o with
    | t :: _ => exact yi_ar_sa h rfl rfl
    | [] => trivial
  | ifnull off =>
    match o with
    | t :: _ => exact yi_ar_sa h yi_kp_nul yi_sa_nul
    | [] => trivial
  | ifnonnull off =>
    match o with
    | t :: _ => exact yi_ar_sa h yi_kp_nul yi_sa_nul
    | [] => trivial
  | tableswitch d lo hi offs => exact yi_ar_sa h yi_kp_tsw yi_sa_tsw
  | lookupswitch d ps => exact yi_ar_sa h yi_kp_lsw yi_sa_lsw
  | getfield k =>
    match o with
    | ci :: k :: _ => exact yi_ar_sa h yi_kp_get yi_sa_get
    | [] => trivial
    | [_] => trivial
  | putfield k =>
    match o with
    | ci :: k :: _ => exact yi_ar_sa h yi_kp_put yi_sa_put
    | [] => trivial
    | [_] => trivial
  | getstatic k =>
    match o with
    | t :: _ => exact yi_ar_sa h yi_kp_gts yi_sa_gts
    | [] => trivial
  | arraylength => exact yi_ar_sa h yi_kp_len yi_sa_len
  | iaload => exact yi_ar_sa h yi_kp_ald yi_sa_ald
  | laload => exact yi_ar_sa h yi_kp_ald yi_sa_ald
  | baload => exact yi_ar_sa h yi_kp_ald yi_sa_ald
  | caload => exact yi_ar_sa h yi_kp_ald yi_sa_ald
  | aaload => exact yi_ar_sa h yi_kp_ald yi_sa_ald
  | iastore => exact yi_ar_sa h yi_kp_ast yi_sa_ast
  | lastore => exact yi_ar_sa h yi_kp_ast yi_sa_ast
  | bastore => exact yi_ar_sa h yi_kp_ast yi_sa_ast
  | castore => exact yi_ar_sa h yi_kp_ast yi_sa_ast
  | aastore => exact yi_ar_sa h yi_kp_aas yi_sa_aas
  | new k =>
    match o with
    | t :: _ => exact yi_ar_sa h yi_kp_nwo yi_sa_nwo
    | [] => trivial
  | newarray k =>
    match o with
    | t :: _ => exact yi_ar_sa h yi_kp_nwa yi_sa_nwa
    | [] => trivial
  | anewarray k =>
    match o with
    | t :: _ => exact yi_ar_sa h yi_kp_nwa yi_sa_nwa
    | [] => trivial
  | invokestatic k =>
    match o with
    | [] => trivial
    | [z] => exact yi_ar_sa h (yi_kp_b yi_kp_mm trivial) (yi_sa_b yi_sa_mm rfl)
    | mi :: k :: _ => exact yi_ar_sa h yi_kp_inv yi_sa_inv
  | invokespecial k =>
    match o with
    | [] => exact yi_ar_sa h yi_kp_obj yi_sa_obj
    | [_] => trivial
    | mi :: k :: _ =>
      show yi_ar (match st[k - 1]? with | some (.inr (.inr (some _))) => bif Nat.ble 1 k then yi_inv pc n al st H nc ns call mi k else none | _ => none) (match st[k - 1]? with | some (.inr (.inr (some _))) => bif Nat.ble 1 k then yi_inv pc n al' st H nc ns call mi k else none | _ => none)
      split
      · exact yi_ar_sa h (yi_kp_b yi_kp_inv trivial) (yi_sa_b yi_sa_inv rfl)
      · trivial
  | invokevirtual k =>
    match o with
    | [] => trivial
    | [_] => trivial
    | [_, _] => trivial
    | mi :: k :: ci :: _ => exact yi_ar_sa h (yi_kp_b yi_kp_inv trivial) (yi_sa_b yi_sa_inv rfl)
  | ireturn => exact yi_ar_sa h (yi_kp_ret (k := 0) (ret := ret)) (yi_sa_ret (k := 0) (ret := ret))
  | lreturn => exact yi_ar_sa h (yi_kp_ret (k := 1) (ret := ret)) (yi_sa_ret (k := 1) (ret := ret))
  | areturn => exact yi_ar_sa h (yi_kp_ret (k := 2) (ret := ret)) (yi_sa_ret (k := 2) (ret := ret))
  | return_ =>
    show yi_ar (yi_rtv ret st) (yi_rtv ret st)
    unfold yi_rtv
    split
    · rfl
    · trivial
  | _ => trivial
end YA
theorem yi_ar_loop {call : yi_K} {M : zi_M} : ∀ (k : Nat) {pc : Nat} {al al' : List (Nat × yi_V)} {st : List yi_V} {H : yi_H} {nc ns : Nat} {r : yi_R}, yi_uq al ∧ yi_uq al' ∧ yi_le al al' → yi_loop call M k (pc, al, st, H, nc, ns) = some r → yi_loop call M k (pc, al', st, H, nc, ns) = some r
  | 0, _, _, _, _, _, _, _, _, _, h => by cases h
  | k + 1, pc, al, al', st, H, nc, ns, r, hl, h => by
    have h : (match yi_stp call [] M (pc, al, st, H, nc, ns) with | some (.inl g) => bif yi_up (pc, al, st, H, nc, ns) g then yi_loop call M k g else none | some (.inr v) => some (v, H, nc, ns) | none => none) = some r := h
    show (match yi_stp call [] M (pc, al', st, H, nc, ns) with | some (.inl g) => bif yi_up (pc, al', st, H, nc, ns) g then yi_loop call M k g else none | some (.inr v) => some (v, H, nc, ns) | none => none) = some r
    have ha : yi_ar (yi_stp call [] M (pc, al, st, H, nc, ns)) (yi_stp call [] M (pc, al', st, H, nc, ns)) := by
      unfold yi_stp
      dsimp only
      cases hq : zi_lk2 pc M.2.2.2.2.1 with
      | none => trivial
      | some e =>
        dsimp only
        have hd := yi_ar_do (pc := pc) (n := e.2.1) (st := st) (H := H) (nc := nc) (ns := ns) hl (call := call) (sl := []) (nL := M.2.2.1) (ret := M.2.2.2.1) e.1 e.2.2
        cases hy : yi_do call [] M.2.2.1 M.2.2.2.1 pc al st H nc ns e.1 e.2.1 e.2.2 with
        | none => trivial
        | some q =>
          rw [hy] at hd
          cases q with
          | inl g =>
            obtain ⟨al2, e1, e2⟩ := hd
            rw [e1]
            exact ⟨al2, rfl, e2⟩
          | inr v =>
            have hd : yi_do call [] M.2.2.1 M.2.2.2.1 pc al' st H nc ns e.1 e.2.1 e.2.2 = some (.inr v) := hd
            rw [hd]
            dsimp only
            cases zi_isr e.1 with
            | true => rfl
            | false => trivial
    cases hy : yi_stp call [] M (pc, al, st, H, nc, ns) with
    | none => rw [hy] at h; cases h
    | some q =>
      rw [hy] at h ha
      cases q with
      | inl g =>
        obtain ⟨al2, e1, e2⟩ := ha
        rw [e1]
        dsimp only at h ⊢
        have hu : yi_up (pc, al', st, H, nc, ns) (g.1, al2, g.2.2) = yi_up (pc, al, st, H, nc, ns) g := rfl
        rw [hu]
        cases hv : yi_up (pc, al, st, H, nc, ns) g with
        | false => rw [hv] at h; cases h
        | true =>
          rw [hv] at h
          obtain ⟨gp, ga, gs, gH, gc, gn⟩ := g
          exact yi_ar_loop k e2 h
      | inr v =>
        have ha : yi_stp call [] M (pc, al', st, H, nc, ns) = some (.inr v) := ha
        rw [ha]
        exact h
/-- the locals may be more, and in another order -/
theorem yi_G_al {Ms : List zi_M} {d : Nat} {M : zi_M} {Q : yi_R → Prop} {pc : Nat} {al al' : List (Nat × yi_V)} {st : List yi_V} {H : yi_H} {nc ns : Nat} (hu : yi_uq al) (hu' : yi_uq al') (hl : ∀ q ∈ al, q ∈ al') (h : yi_G Ms d M (pc, al, st, H, nc, ns) Q) : yi_G Ms d M (pc, al', st, H, nc, ns) Q := by
  obtain ⟨r, h1, n0, h2⟩ := h
  exact ⟨r, h1, n0, fun n k hn hk => yi_ar_loop k ⟨hu, hu', hl⟩ (h2 n k hn hk)⟩
