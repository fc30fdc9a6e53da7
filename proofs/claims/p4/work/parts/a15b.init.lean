/-! What the Statement gives of the start. -/
theorem zi_inst_all : zi_Fs.all (fun q => zi_mem (.instantiable q.1 q.2.length)) = true := by decide +kernel
theorem zi_ex_int : zi_mem (.arrayClass .int) = true := by decide +kernel
theorem zi_ex_long : zi_mem (.arrayClass .long) = true := by decide +kernel
theorem zi_ex_boolean : zi_mem (.arrayClass .boolean) = true := by decide +kernel
theorem zi_ex_char : zi_mem (.arrayClass .char) = true := by decide +kernel
theorem zi_ao4 : Cond.arrayOver (.object "AgreeTold$FutureSet") ∈ lw_tbl := by decide +kernel
theorem zi_ao5 : Cond.arrayOver (.object "AgreeTold$Story") ∈ lw_tbl := by decide +kernel
theorem zi_ao6 : Cond.arrayOver (.object "AgreeTold$Saying") ∈ lw_tbl := by decide +kernel
theorem zi_prim {args : Array Value} {s : State} {ty : FieldType} (h : (Cond.arrayClass ty).before args s = true) : ∃ cA : ClassId, ArrOfT s cA ty ∧ s.vm.findClass ("[" ++ ty.toString) = some cA := by
  obtain ⟨c, k, comp, h1, h2, h3⟩ := Cond.arrayClass_spec h
  exact ⟨c, fun n z => ⟨fun k h => (by cases h), k, h2, comp, h3⟩, h1⟩
theorem zi_refs {args : Array Value} {s : State} {C : String} (h : (Cond.arrayOver (.object C)).before args s = true) : ∃ cA : ClassId, ArrOfT s cA (.object C) ∧ va_RA s cA (.object C) := by
  obtain ⟨comp, c, k, h1, h2, h3, h4, h5⟩ := Cond.arrayOver_spec h
  exact ⟨c, fun n z => ⟨fun k h => (by cases h), k, h3, comp, h4⟩, k, comp, h3, h4, h1, h5⟩
theorem zi_K_ex {args : Array Value} {s : State} (hts : ∀ w ∈ lw_tbl, w.before args s = true) : ∃ (D : va_G) (dA : Nat → ClassId), va_K D zi_cl (zi_tys dA) s := by
  have h0 : ∀ ci : Nat, ∃ q : ClassId × (Nat → Nat), ∀ z, zi_Fs[ci]? = some z → u_Kn s z.1 (zi_Tf z) z.2.length q.1 q.2 := by
    intro ci
    cases hz : zi_Fs[ci]? with
    | none => exact ⟨(0, fun _ => 0), fun z h => by cases h⟩
    | some z =>
      have h1 := List.all_eq_true.mp zi_inst_all z (List.mem_of_getElem? hz)
      obtain ⟨cC, iS, h⟩ := u_known (C := z.1) (T := zi_Tf z) (N := z.2.length) (n := z.2.length) (ws := lw_tbl) hts (fun w hw => (List.mem_filter.mp ((zi_cl_ok hz).1 w hw)).1) (hts _ (List.mem_filter.mp (zi_mem_ok h1)).1)
      exact ⟨(cC, iS), fun z' h' => by cases h'; exact h⟩
  have h1 : ∀ t : Nat, ∃ cA : ClassId, t < 7 → ArrOfT s cA (zi_ft t) ∧ va_RA s cA (zi_ft t) := by
    intro t
    by_cases ht : t < 7
    · rcases (show t = 0 ∨ t = 1 ∨ t = 2 ∨ t = 3 ∨ t = 4 ∨ t = 5 ∨ t = 6 by omega) with z | z | z | z | z | z | z <;> subst z
      · obtain ⟨cA, a1, a2⟩ := zi_prim (hts _ (List.mem_filter.mp (zi_mem_ok zi_ex_int)).1)
        exact ⟨cA, fun _ => ⟨a1, a2⟩⟩
      · obtain ⟨cA, a1, a2⟩ := zi_prim (hts _ (List.mem_filter.mp (zi_mem_ok zi_ex_long)).1)
        exact ⟨cA, fun _ => ⟨a1, a2⟩⟩
      · obtain ⟨cA, a1, a2⟩ := zi_prim (hts _ (List.mem_filter.mp (zi_mem_ok zi_ex_boolean)).1)
        exact ⟨cA, fun _ => ⟨a1, a2⟩⟩
      · obtain ⟨cA, a1, a2⟩ := zi_prim (hts _ (List.mem_filter.mp (zi_mem_ok zi_ex_char)).1)
        exact ⟨cA, fun _ => ⟨a1, a2⟩⟩
      · obtain ⟨cA, a1, a2⟩ := zi_refs (hts _ zi_ao4)
        exact ⟨cA, fun _ => ⟨a1, a2⟩⟩
      · obtain ⟨cA, a1, a2⟩ := zi_refs (hts _ zi_ao5)
        exact ⟨cA, fun _ => ⟨a1, a2⟩⟩
      · obtain ⟨cA, a1, a2⟩ := zi_refs (hts _ zi_ao6)
        exact ⟨cA, fun _ => ⟨a1, a2⟩⟩
    · exact ⟨0, fun h => absurd h ht⟩
  obtain ⟨f, hf⟩ := Classical.axiomOfChoice h0
  obtain ⟨dA, hdA⟩ := Classical.axiomOfChoice h1
  refine ⟨(fun ci => (f ci).1, fun ci => (f ci).2), dA, ⟨fun ci q hq => ?_, fun k q hk => ?_⟩⟩
  · cases hz : zi_Fs[ci]? with
    | none =>
      unfold zi_cl at hq
      rw [List.getElem?_map, hz] at hq
      cases hq
    | some z =>
      rw [zi_cl_at hz] at hq
      cases hq
      exact hf ci z hz
  · have hl : k < 7 := by
      have := (List.getElem?_eq_some_iff.mp hk).1
      simpa [zi_tys] using this
    rw [zi_tys_at dA hl] at hk
    cases hk
    exact hdA k hl
/-! the String constants -/
def zi_fl : List Cond := flatC (Jvm.Cond.and given_1 narrow_1)
def zi_tm (i : Nat) : Term := match i with
  | 0 => .string "AgreeTold$Tape" 26
  | 1 => .string "AgreeTold$Reader" 18
  | 2 => .string "AgreeTold$Tape" 77
  | _ => .string "AgreeTold" 343
theorem zi_s_all : (List.range 4).all (fun i => decide (Cond.exactly (zi_tm i) "java/lang/String" ∈ zi_fl) && decide (Cond.eq (.field (zi_tm i) "java/lang/String" "coder" "B") (.int 0) ∈ zi_fl) && decide (Cond.arrayOf (.field (zi_tm i) "java/lang/String" "value" "[B") .byte ∈ zi_fl) && decide (Cond.eq (.length (.field (zi_tm i) "java/lang/String" "value" "[B")) (.int (Int32.ofNat (zi_sn.getD i 0))) ∈ zi_fl) && Nat.ble (zi_sn.getD i 0) 1000) = true := by decide +kernel
def zi_bs (i : Nat) : Nat := match i with
  | 0 => 27
  | 1 => 185
  | 2 => 207
  | _ => 221
def zi_el (i j : Nat) : Cond := Cond.eq (.elem (.field (zi_tm i) "java/lang/String" "value" "[B") (.int (Int32.ofNat j))) (.int ((zi_sb.getD i []).getD j 0))
theorem zi_e0 : (zi_fl.drop 27).take 154 = (List.range 154).map (zi_el 0) := by decide +kernel
theorem zi_e1 : (zi_fl.drop 185).take 17 = (List.range 17).map (zi_el 1) := by decide +kernel
theorem zi_e2 : (zi_fl.drop 207).take 8 = (List.range 8).map (zi_el 2) := by decide +kernel
theorem zi_e3 : (zi_fl.drop 221).take 12 = (List.range 12).map (zi_el 3) := by decide +kernel
theorem zi_e_of {a n i : Nat} (h : (zi_fl.drop a).take n = (List.range n).map (zi_el i)) {j : Nat} (hj : j < n) : zi_el i j ∈ zi_fl := by
  have h1 : zi_el i j ∈ (List.range n).map (zi_el i) := List.mem_map.mpr ⟨j, List.mem_range.mpr hj, rfl⟩
  rw [← h] at h1
  exact List.mem_of_mem_drop (List.mem_of_mem_take h1)
theorem zi_e_all (i : Nat) (hi : i < 4) (j : Nat) (hj : j < zi_sn.getD i 0) : zi_el i j ∈ zi_fl := by
  rcases (show i = 0 ∨ i = 1 ∨ i = 2 ∨ i = 3 by omega) with z | z | z | z <;> subst z
  · exact zi_e_of zi_e0 hj
  · exact zi_e_of zi_e1 hj
  · exact zi_e_of zi_e2 hj
  · exact zi_e_of zi_e3 hj
theorem zi_n_all : (List.range 4).all (fun i => (List.range 4).all (fun j => decide (i = j) || decide (Cond.not (Cond.eq (zi_tm i) (zi_tm j)) ∈ zi_fl) || decide (Cond.not (Cond.eq (zi_tm j) (zi_tm i)) ∈ zi_fl))) = true := by decide +kernel
theorem zi_r_all : ((List.range 4).zip zi_sr).all (fun q => decide (zi_tm q.1 = .string q.2.1 q.2.2.1) && decide (Cond.stringRef q.2.1 q.2.2.1 q.2.2.2 ∈ lw_tbl)) = true := by decide +kernel
theorem zi_nest_all : zi_nest.all (fun q => decide (Cond.methodLinkNest q.1 q.2.1 q.2.2.1 q.2.2.2 ∈ lw_tbl)) = true := by decide +kernel
theorem zi_st0 : Cond.laysStatic "java/lang/String" "COMPACT_STRINGS" "Z" ∈ lw_tbl ∧ Cond.initialized "java/lang/String" ∈ lw_tbl ∧ Cond.eq (.static "java/lang/String" "COMPACT_STRINGS" "Z") (.int 1) ∈ zi_fl := ⟨by decide +kernel, by decide +kernel, by decide +kernel⟩
theorem zi_st1 : Cond.laysStatic "jdk/internal/util/Preconditions" "SIOOBE_FORMATTER" "Ljava/util/function/BiFunction;" ∈ lw_tbl ∧ Cond.initialized "jdk/internal/util/Preconditions" ∈ lw_tbl ∧ Cond.isRef (.static "jdk/internal/util/Preconditions" "SIOOBE_FORMATTER" "Ljava/util/function/BiFunction;") ∈ zi_fl := ⟨by decide +kernel, by decide +kernel, by decide +kernel⟩
theorem zi_X_ex {args : Array Value} {s : State} (hts : ∀ w ∈ lw_tbl, w.before args s = true) (hgv : (Jvm.Cond.and given_1 narrow_1).before args s = true) : ∃ (D : va_G) (dA : Nat → ClassId) (adK adV : Nat → Nat), zi_X s.heap.size D dA adK adV s := by
  have hs : ∀ w ∈ zi_fl, w.before args s = true := flat_of_before _ hgv
  have hA : ∀ a : Nat, a < s.heap.size → ¬ s.heap.size ≤ a := fun a h => Nat.not_le.mpr h
  obtain ⟨D, dA, hK⟩ := zi_K_ex hts
  have sa : ∀ i : Nat, i < 4 → _ := fun i hi => List.all_eq_true.mp zi_s_all i (List.mem_range.mpr hi)
  simp only [Bool.and_eq_true, decide_eq_true_eq] at sa
  have na : ∀ i : Nat, i < 4 → ∀ j : Nat, j < 4 → _ := fun i hi j hj => List.all_eq_true.mp (List.all_eq_true.mp zi_n_all i (List.mem_range.mpr hi)) j (List.mem_range.mpr hj)
  simp only [Bool.or_eq_true, decide_eq_true_eq] at na
  obtain ⟨adK, adV, hS, hev⟩ := vk_Sof (N := 4) (tm := zi_tm) (len := zi_sn) (byt := zi_sb) (A := fun q => s.heap.size ≤ q) (args := args) (s := s) (fun i hi => Nat.lt_of_le_of_lt (Nat.le_of_ble_eq_true (sa i hi).2) (by decide)) (fun i hi => hs _ (sa i hi).1.1.1.1) (fun i hi => hs _ (sa i hi).1.1.1.2) (fun i hi => hs _ (sa i hi).1.1.2) (fun i hi => hs _ (sa i hi).1.2) (fun i hi j hj => hs _ (zi_e_all i hi j hj)) (fun i j hi hj hij => by
    rcases na i hi j hj with (z | z) | z
    · exact absurd z hij
    · exact Or.inl (hs _ z)
    · exact Or.inr (hs _ z)) hA
  refine ⟨D, dA, adK, adV, hK, hS, fun i q hq => ?_, va_Zof (hts _ zi_st0.1) (hts _ zi_st0.2.1) (va_eqi (hs _ zi_st0.2.2)) hA, va_Zqof (hts _ zi_st1.1) (hts _ zi_st1.2.1) (hs _ zi_st1.2.2) hA, fun q hq => ?_, ⟨va_AO.of (hts _ zi_ao4), va_AO.of (hts _ zi_ao5), va_AO.of (hts _ zi_ao6)⟩, Nat.le_refl _⟩
  · have hi : i < 4 := (List.getElem?_eq_some_iff.mp hq).1
    have hm : (i, q) ∈ (List.range 4).zip zi_sr := by
      refine List.mem_of_getElem? (i := i) ?_
      rw [List.getElem?_zip_eq_some]
      exact ⟨by rw [List.getElem?_range hi], hq⟩
    have hz := List.all_eq_true.mp zi_r_all _ hm
    simp only [Bool.and_eq_true, decide_eq_true_eq] at hz
    have he := hev i hi
    rw [hz.1] at he
    refine vk_R.of (A := args) (hts _ hz.2) he
  · have hz := List.all_eq_true.mp zi_nest_all q hq
    exact va_Nw.of rfl (hts _ (of_decide_eq_true hz))
