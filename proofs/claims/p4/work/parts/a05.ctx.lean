/-! What holds throughout a frame; what a step is to give; steps that touch the stack and the locals alone. -/
def zi_gd : List Cond := lw_tbl.filter goodWord
def zi_fp (q : Nat) : Option (MethodName × Nat) := match q / 16 with
  | 0 => lw_privs_1[q % 16]?
  | 1 => lw_privs_2[q % 16]?
  | 2 => lw_privs_3[q % 16]?
  | 3 => lw_privs_4[q % 16]?
  | 4 => lw_privs_5[q % 16]?
  | 5 => lw_privs_6[q % 16]?
  | 6 => lw_privs_7[q % 16]?
  | 7 => lw_privs_8[q % 16]?
  | 8 => lw_privs_9[q % 16]?
  | _ => lw_privs_10[q % 16]?
def zi_f2 (q : Nat) : Option Cond := match q / 240 with
  | 0 => tables_1_1[q % 240]?
  | 1 => tables_1_2[q % 240]?
  | 2 => tables_1_3[q % 240]?
  | 3 => tables_1_4[q % 240]?
  | 4 => tables_1_5[q % 240]?
  | 5 => tables_1_6[q % 240]?
  | 6 => tables_1_7[q % 240]?
  | 7 => tables_1_8[q % 240]?
  | _ => tables_1_9[q % 240]?
def zi_fat (q : Nat) : Option Cond := bif Nat.ble 149 q then zi_f2 (q - 149) else (zi_fp q).map (fun z => Cond.selects z.1.cls z.1 z.1)
theorem zi_fp_ok {q : Nat} {z : MethodName × Nat} (h : zi_fp q = some z) : z ∈ lw_privs := by
  unfold zi_fp at h
  show z ∈ lw_privs_1 ++ (lw_privs_2 ++ (lw_privs_3 ++ (lw_privs_4 ++ (lw_privs_5 ++ (lw_privs_6 ++ (lw_privs_7 ++ (lw_privs_8 ++ (lw_privs_9 ++ (lw_privs_10)))))))))
  simp only [List.mem_append]
  split at h
  · have h := List.mem_of_getElem? h
    exact Or.inl h
  · have h := List.mem_of_getElem? h
    exact Or.inr (Or.inl h)
  · have h := List.mem_of_getElem? h
    exact Or.inr (Or.inr (Or.inl h))
  · have h := List.mem_of_getElem? h
    exact Or.inr (Or.inr (Or.inr (Or.inl h)))
  · have h := List.mem_of_getElem? h
    exact Or.inr (Or.inr (Or.inr (Or.inr (Or.inl h))))
  · have h := List.mem_of_getElem? h
    exact Or.inr (Or.inr (Or.inr (Or.inr (Or.inr (Or.inl h)))))
  · have h := List.mem_of_getElem? h
    exact Or.inr (Or.inr (Or.inr (Or.inr (Or.inr (Or.inr (Or.inl h))))))
  · have h := List.mem_of_getElem? h
    exact Or.inr (Or.inr (Or.inr (Or.inr (Or.inr (Or.inr (Or.inr (Or.inl h)))))))
  · have h := List.mem_of_getElem? h
    exact Or.inr (Or.inr (Or.inr (Or.inr (Or.inr (Or.inr (Or.inr (Or.inr (Or.inl h))))))))
  · have h := List.mem_of_getElem? h
    exact Or.inr (Or.inr (Or.inr (Or.inr (Or.inr (Or.inr (Or.inr (Or.inr (Or.inr (h)))))))))
theorem zi_f2_ok {q : Nat} {w : Cond} (h : zi_f2 q = some w) : w ∈ tables_1 := by
  unfold zi_f2 at h
  unfold tables_1
  simp only [List.mem_append]
  split at h
  · have h := List.mem_of_getElem? h
    exact Or.inl h
  · have h := List.mem_of_getElem? h
    exact Or.inr (Or.inl h)
  · have h := List.mem_of_getElem? h
    exact Or.inr (Or.inr (Or.inl h))
  · have h := List.mem_of_getElem? h
    exact Or.inr (Or.inr (Or.inr (Or.inl h)))
  · have h := List.mem_of_getElem? h
    exact Or.inr (Or.inr (Or.inr (Or.inr (Or.inl h))))
  · have h := List.mem_of_getElem? h
    exact Or.inr (Or.inr (Or.inr (Or.inr (Or.inr (Or.inl h)))))
  · have h := List.mem_of_getElem? h
    exact Or.inr (Or.inr (Or.inr (Or.inr (Or.inr (Or.inr (Or.inl h))))))
  · have h := List.mem_of_getElem? h
    exact Or.inr (Or.inr (Or.inr (Or.inr (Or.inr (Or.inr (Or.inr (Or.inl h)))))))
  · have h := List.mem_of_getElem? h
    exact Or.inr (Or.inr (Or.inr (Or.inr (Or.inr (Or.inr (Or.inr (Or.inr (h))))))))
theorem zi_fat_ok {q : Nat} {w : Cond} (h : zi_fat q = some w) : w ∈ lw_tbl := by
  unfold zi_fat at h
  unfold lw_tbl
  rw [List.mem_append]
  cases hb : Nat.ble 149 q with
  | true =>
    rw [hb] at h
    exact Or.inr (zi_f2_ok h)
  | false =>
    rw [hb] at h
    have h : (zi_fp q).map (fun z => Cond.selects z.1.cls z.1 z.1) = some w := h
    cases hz : zi_fp q with
    | none => rw [hz] at h; cases h
    | some z =>
      rw [hz] at h
      have e : Cond.selects z.1.cls z.1 z.1 = w := Option.some.inj h
      rw [← e]
      unfold k2_sels
      exact Or.inl (List.mem_map.mpr ⟨z, zi_fp_ok hz, rfl⟩)
def zi_at (q : Nat) (w : Cond) : Bool := decide (zi_fat q = some w) && goodWord w
theorem zi_at_mem {q : Nat} {w : Cond} (h : zi_at q w = true) : w ∈ zi_gd := by
  unfold zi_at at h
  rw [Bool.and_eq_true, decide_eq_true_eq] at h
  exact List.mem_filter.mpr ⟨zi_fat_ok h.1, h.2⟩
def zi_tys (dA : Nat → ClassId) : List (ClassId × FieldType) := (List.range 7).map (fun t => (dA t, zi_ft t))
theorem zi_tys_at (dA : Nat → ClassId) {t : Nat} (h : t < 7) : (zi_tys dA)[t]? = some (dA t, zi_ft t) := by
  unfold zi_tys
  rw [List.getElem?_map, List.getElem?_range h]
  rfl
/-- what a state gives: the classes, the Strings, the statics, the words of the nest -/
def zi_X (B0 : Nat) (D : va_G) (dA : Nat → ClassId) (adK adV : Nat → Nat) (U : State) : Prop :=
  va_K D zi_cl (zi_tys dA) U ∧ vk_S 4 zi_sn zi_sb adK adV (fun q => B0 ≤ q) U U.heap ∧ (∀ (i : Nat) (q : String × Nat × String), zi_sr[i]? = some q → vk_R q.1 q.2.1 q.2.2 (adK i) U) ∧
  va_Z "java/lang/String" "COMPACT_STRINGS" "Z" (.int 1) (fun q => B0 ≤ q) U U.heap ∧ va_Zq "jdk/internal/util/Preconditions" "SIOOBE_FORMATTER" "Ljava/util/function/BiFunction;" (fun q => B0 ≤ q) U U.heap ∧
  (∀ q ∈ zi_nest, va_Nw (.methodLinkNest q.1 q.2.1 q.2.2.1 q.2.2.2) U) ∧ (va_AO "AgreeTold$FutureSet" U ∧ va_AO "AgreeTold$Story" U ∧ va_AO "AgreeTold$Saying" U) ∧ B0 ≤ U.heap.size
theorem zi_X_mv {B0 : Nat} {D : va_G} {dA : Nat → ClassId} {adK adV : Nat → Nat} {s U : State} {H : Heap} {locs : List Loc} (h : zi_X B0 D dA adK adV s) (hW : s.WarmedH U.vm) (hU : U.heap = H) (hS : va_S (fun q => B0 ≤ q) s.heap H locs) : zi_X B0 D dA adK adV U := by
  obtain ⟨h1, h2, h3, h4, h5, h6, h7, h8⟩ := h
  subst hU
  exact ⟨va_K.moved hW.alike h1, vk_S.moved hW.alike (h2.kept hS.2.1), fun i q hq => vk_R.warm hW (h3 i q hq), va_Z.moved hW.alike (h4.kept hS.2.1), va_Zq.moved hW.alike (h5.kept hS.2.1), fun q hq => va_Nw.warmM hW (h6 q hq), ⟨va_AO.moved hW.alike h7.1, va_AO.moved hW.alike h7.2.1, va_AO.moved hW.alike h7.2.2⟩, Nat.le_trans h8 hS.1⟩
theorem zi_X_cl {B0 : Nat} {D : va_G} {dA : Nat → ClassId} {adK adV : Nat → Nat} {U : State} {g : JFrame} {mk : MethodId} {a : Array Value} (h : zi_X B0 D dA adK adV U) : zi_X B0 D dA adK adV (U.calling g mk a) :=
  zi_X_mv (locs := []) h (U := U.calling g mk a) (State.WarmedH.refl U) rfl va_S.rf
def zi_Cx (p : Program) (R : Room) (s : State) (m : MethodId) (args : Array Value) (meth : Method) (c : Code) (B0 : Nat) (D : va_G) (dA : Nat → ClassId) (adK adV : Nat → Nat) (b : Nat) (M : zi_M) (d : Nat) (sl : List zi_V) : Prop :=
  (p.tables.exec = Jvm.exec ∧ c.code = M.2.1 ∧ c.maxLocals = M.2.2.1 ∧ meth.sig.returnType = M.2.2.2.1 ∧ s.vm.findClass M.1.cls = some m.cls ∧ (∀ w ∈ zi_gd, w.before args s = true) ∧ meth.locks = false ∧ meth.name = M.1.name) ∧ zi_X B0 D dA adK adV s ∧ (d + 1 ≤ R.frames ∧ 60 * (d + 1) ≤ R.locals) ∧
  (sl = [] ∨ ∃ xs : Nat → Int32, va_X b sl.length xs s s.heap ∧ b < s.heap.size ∧ b < B0 ∧ ∀ (ad : Nat → Option Nat) (j : Nat) (v : zi_V), sl[j]? = some v → zi_vr ad v (.int (xs j)))
def zi_St (B0 : Nat) (D : va_G) (dA : Nat → ClassId) (adK adV : Nat → Nat) (b nL : Nat) (s : State) (f : zi_F) (ws : va_W) (H : Heap) (locs : List Loc) (ls : Array Slot) (sc : List Value) : Prop :=
  va_P D zi_cl ws H ∧ va_D (fun q => B0 ≤ q) ws ∧ va_S (fun q => B0 ≤ q) s.heap H locs ∧ zi_F2 (zi_cr (zi_ad adK adV b ws) dA) f.2.2.2.1 ws ∧ (∃ lv, lv_has ls nL lv ∧ zi_F2 (zi_lr (zi_ad adK adV b ws)) f.2.1 lv) ∧ zi_F2 (zi_vr (zi_ad adK adV b ws)) f.2.2.1 sc
abbrev zi_W (p : Program) (l : Launch) (e : Env) (R : Room) (s : State) (m : MethodId) (args : Array Value) (below : List Frame) (meth : Method) (c : Code) (Q : State → Prop) (nc ns pc : Nat) (H : Heap) (locs : List Loc) (ls : Array Slot) (sc : List Value) : Prop := W p l e R s m args below meth c H locs nc ns Q (F0 m pc ls sc)
def zi_Go (p : Program) (l : Launch) (e : Env) (R : Room) (s : State) (m : MethodId) (args : Array Value) (below : List Frame) (meth : Method) (c : Code) (B0 : Nat) (D : va_G) (dA : Nat → ClassId) (adK adV : Nat → Nat) (b nL : Nat) (f g : zi_F) : Prop :=
  ∀ (Q : State → Prop) (ws : va_W) (H : Heap) (locs : List Loc) (ls : Array Slot) (sc : List Value), zi_St B0 D dA adK adV b nL s f ws H locs ls sc → g.2.2.2.2.1 ≤ R.cells → g.2.2.2.2.2 ≤ R.slots →
    (∀ (ws' : va_W) (H' : Heap) (locs' : List Loc) (ls' : Array Slot) (sc' : List Value), zi_ex ws ws' → zi_St B0 D dA adK adV b nL s g ws' H' locs' ls' sc' → zi_W p l e R s m args below meth c Q g.2.2.2.2.1 g.2.2.2.2.2 g.1 H' locs' ls' sc') →
    zi_W p l e R s m args below meth c Q f.2.2.2.2.1 f.2.2.2.2.2 f.1 H locs ls sc
section ZG
variable {p : Program} {l : Launch} {e : Env} {R : Room} {s : State} {m : MethodId} {args : Array Value} {below : List Frame} {meth : Method} {c : Code} {B0 : Nat} {D : va_G} {dA : Nat → ClassId} {adK adV : Nat → Nat} {b nL : Nat}
variable {pc n : Nat} {al : List (Nat × zi_V)} {st : List zi_V} {A : List zi_C} {nc ns : Nat} {g : zi_F}
theorem zi_Go.tr {f g h : zi_F} (hm : g.2.2.2.2.1 ≤ h.2.2.2.2.1 ∧ g.2.2.2.2.2 ≤ h.2.2.2.2.2) (h1 : zi_Go p l e R s m args below meth c B0 D dA adK adV b nL f g) (h2 : zi_Go p l e R s m args below meth c B0 D dA adK adV b nL g h) : zi_Go p l e R s m args below meth c B0 D dA adK adV b nL f h := by
  intro Q ws H locs ls sc hS hc hs kk
  refine h1 Q ws H locs ls sc hS (Nat.le_trans hm.1 hc) (Nat.le_trans hm.2 hs) ?_
  intro ws' H' locs' ls' sc' hex hS'
  refine h2 Q ws' H' locs' ls' sc' hS' hc hs ?_
  intro ws2 H2 locs2 ls2 sc2 hex2 hS2
  exact kk ws2 H2 locs2 ls2 sc2 (zi_ex_trans hex hex2) hS2
theorem zi_Go.refl (f : zi_F) : zi_Go p l e R s m args below meth c B0 D dA adK adV b nL f f := fun _ ws H locs ls sc hS _ _ kk => kk ws H locs ls sc (zi_ex_refl ws) hS
end ZG
