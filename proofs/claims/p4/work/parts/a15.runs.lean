/-! Runs: a frame to its return is a contract; so many steps of a frame. -/
section ZR
variable {p : Program} {l : Launch} {e : Env} {R : Room} {s : State} {m : MethodId} {args : Array Value} {below : List Frame} {meth : Method} {c : Code} {B0 : Nat} {D : va_G} {dA : Nat → ClassId} {adK adV : Nat → Nat} {b : Nat} {M : zi_M} {d : Nat} {sl : List zi_V} {Ms : List zi_M} {call : zi_K}
def zi_okT (Ms : List zi_M) (M : zi_M) : Prop := ∀ (pc : Nat) (e : zi_E), zi_lk2 pc M.2.2.2.2.1 = some e → zi_ok Ms M pc e = true
theorem zi_stp_go (C : zi_Cx p R s m args meth c B0 D dA adK adV b M d sl) (hct : zi_Ct l Ms d call) (hMs : ∀ (mi : Nat) (N : zi_M), Ms[mi]? = some N → zi_okM N) (hT : zi_okT Ms M) {f g : zi_F} (h : zi_stp call sl M f = some (.inl g)) : zi_Go p l e R s m args below meth c B0 D dA adK adV b M.2.2.1 f g := by
  unfold zi_stp at h
  split at h
  · rename_i en hen
    obtain ⟨i, n, o⟩ := en
    obtain ⟨pc, al, st, A, nc, ns⟩ := f
    split at h
    · rename_i g' hg
      cases h
      exact zi_step C hct hMs (hT pc _ hen) hg
    · cases hi : zi_isr i with
      | true => rw [hi] at h; cases h
      | false => rw [hi] at h; cases h
    · cases h
  · cases h
theorem zi_ret_inv {k : Nat} {v : Option zi_V} : ∀ (r : Option FieldType) (st : List zi_V), zi_ret k r st = some (.inr v) → ∃ ty x, r = some ty ∧ st = [x] ∧ v = some x ∧ zi_rok ty x = true ∧ zi_rk k x = true
  | none, _, h => by cases h
  | some _, [], h => by cases h
  | some _, _ :: _ :: _, h => by cases h
  | some ty, [x], h => by
    have h : (bif zi_rok ty x && zi_rk k x then some (.inr (some x)) else none) = (some (.inr v) : zi_O) := h
    cases hz : (zi_rok ty x && zi_rk k x) with
    | true =>
      rw [hz] at h
      cases h
      rw [Bool.and_eq_true] at hz
      exact ⟨ty, x, rfl, rfl, rfl, hz.1, hz.2⟩
    | false => rw [hz] at h; cases h
theorem zi_rtv_inv {v : Option zi_V} : ∀ (r : Option FieldType) (st : List zi_V), zi_rtv r st = some (.inr v) → r = none ∧ st = [] ∧ v = none
  | none, [], h => by cases h; exact ⟨rfl, rfl, rfl⟩
  | none, _ :: _, h => by cases h
  | some _, _, h => by cases h
theorem zi_run_go (C : zi_Cx p R s m args meth c B0 D dA adK adV b M d sl) (hct : zi_Ct l Ms d call) (hMs : ∀ (mi : Nat) (N : zi_M), Ms[mi]? = some N → zi_okM N) (hT : zi_okT Ms M) : ∀ (n : Nat) {f g : zi_F}, zi_run call sl M n f = some g → zi_Go p l e R s m args below meth c B0 D dA adK adV b M.2.2.1 f g ∧ f.2.2.2.2.1 ≤ g.2.2.2.2.1 ∧ f.2.2.2.2.2 ≤ g.2.2.2.2.2
  | 0, f, g, h => by
    have h : some f = some g := h
    cases h
    exact ⟨zi_Go.refl f, Nat.le_refl _, Nat.le_refl _⟩
  | n + 1, f, g, h => by
    have h : (match zi_stp call sl M f with | some (.inl g) => bif zi_up f g then zi_run call sl M n g else none | _ => none) = some g := h
    split at h
    · rename_i x hx
      cases hu : zi_up f x with
      | false => rw [hu] at h; cases h
      | true =>
        rw [hu] at h
        obtain ⟨h1, h2, h3⟩ := zi_run_go C hct hMs hT n h
        unfold zi_up at hu
        rw [Bool.and_eq_true] at hu
        have u1 := Nat.le_of_ble_eq_true hu.1
        have u2 := Nat.le_of_ble_eq_true hu.2
        exact ⟨zi_Go.tr ⟨h2, h3⟩ (zi_stp_go C hct hMs hT hx) h1, Nat.le_trans u1 h2, Nat.le_trans u2 h3⟩
    · cases h
theorem zi_rok_int {ty : FieldType} {v : zi_V} {ad : Nat → Option Nat} {x : Int32} (h : zi_rok ty v = true) (hv : zi_vr ad v (.int x)) : narrow ty (.int x) = .int x := by
  unfold zi_vr at hv
  split at hv
  · cases hv; exact of_decide_eq_true h
  · cases hv
  · cases hv
  · obtain ⟨a, -, z⟩ := hv; cases z
  · rcases hv with z | ⟨a, z⟩ <;> cases z
  · exact hv.elim
  · exact hv.elim
  · have : ty = .int := of_decide_eq_true h
    rw [this]; rfl
theorem zi_rok_long {ty : FieldType} {v : zi_V} (h : zi_rok ty v = true) (hv : zi_kd v = 1) : ty = .long := by
  cases v with
  | inr q => cases hv
  | inl w => cases w with
    | long x => exact of_decide_eq_true h
    | _ => cases hv
theorem zi_rok_ref {ty : FieldType} {v : zi_V} (h : zi_rok ty v = true) (hv : 2 ≤ zi_kd v) : (∃ n, ty = .object n) ∨ ∃ t, ty = .array t := by
  cases v with
  | inr q => exact absurd hv (by simp [zi_kd])
  | inl w => cases w with
    | ref x =>
      cases ty with
      | object n => exact Or.inl ⟨n, rfl⟩
      | array t => exact Or.inr ⟨t, rfl⟩
      | _ => cases h
    | null =>
      cases ty with
      | object n => exact Or.inl ⟨n, rfl⟩
      | array t => exact Or.inr ⟨t, rfl⟩
      | _ => cases h
    | int x => exact absurd hv (by simp [zi_kd])
    | long x => exact absurd hv (by simp [zi_kd])
    | _ => cases h
theorem zi_stp_ret (C : zi_Cx p R s m args meth c B0 D dA adK adV b M d []) (hT : zi_okT Ms M) {f : zi_F} {v : Option zi_V} (h : zi_stp call [] M f = some (.inr v)) {ws0 ws : va_W} {H : Heap} {locs : List Loc} {ls : Array Slot} {sc : List Value} (hex : zi_ex ws0 ws) (hS : zi_St B0 D dA adK adV b M.2.2.1 s f ws H locs ls sc) :
    zi_W p l e R s m args below meth c (MQ below (zi_Q B0 D dA adK adV b ws0 v f.2.2.2.1) args s f.2.2.2.2.1 f.2.2.2.2.2 (fun q => B0 ≤ q)) f.2.2.2.2.1 f.2.2.2.2.2 f.1 H locs ls sc := by
  obtain ⟨⟨hx, hb, hml, hret, hown, hts, hlk, hnm⟩, hX, hR, hscr⟩ := C
  obtain ⟨pc, al, st, A, nc, ns⟩ := f
  obtain ⟨h1, h2, h3, h4, h5, h6⟩ := hS
  unfold zi_stp at h
  split at h
  · rename_i en hen
    obtain ⟨i, n, o⟩ := en
    have hok := hT pc _ hen
    unfold zi_ok at hok
    rw [Bool.and_eq_true, Bool.and_eq_true] at hok
    have hd : decode M.2.1 pc = .ok (i, n) := of_decide_eq_true hok.1.1
    have hn0 := hok.1.2
    rw [Bool.or_eq_true] at hn0
    have hn : zi_sw i = true ∨ n = zi_ln i := hn0.imp id (fun z => Nat.eq_of_beq_eq_true z)
    have post : ∀ (w : Option Value), zi_ro (zi_ad adK adV b ws) v w → ∀ t : State, t.heap = H → s.WarmedH t.vm → zi_Q B0 D dA adK adV b ws0 v A args s (.returned w) t := by
      intro w hw t ht _
      exact ⟨⟨w, ws, rfl, hex, hw, h4, by rw [ht]; exact h1, h2⟩, h3.F ht⟩
    have hf : ∀ q ∈ locs, B0 ≤ q.base := h3.2.2
    have hh : zi_do call [] M.2.2.1 M.2.2.2.1 pc al st A nc ns i n o = some (.inr v) ∧ zi_isr i = true := by
      split at h
      · cases h
      · rename_i v' hv
        cases hi : zi_isr i with
        | true => rw [hi] at h; cases h; exact ⟨hv, rfl⟩
        | false => rw [hi] at h; cases h
      · cases h
    clear h
    obtain ⟨h, hisr⟩ := hh
    have rets : ∀ k : Nat, zi_ret k M.2.2.2.1 st = some (.inr v) → ∃ ty x w, M.2.2.2.1 = some ty ∧ v = some x ∧ sc = [w] ∧ zi_rok ty x = true ∧ zi_rk k x = true ∧ zi_vr (zi_ad adK adV b ws) x w := by
      intro k hk
      obtain ⟨ty, x, e1, e2, e3, e4, e5⟩ := zi_ret_inv _ _ hk
      have h6 : zi_F2 (zi_vr (zi_ad adK adV b ws)) st sc := h6
      rw [e2] at h6
      obtain ⟨w, sc1, e6, hw, h7⟩ := zi_F2_cons h6
      have e7 := zi_F2_nil h7
      exact ⟨ty, x, w, e1, e3, by rw [e6, e7], e4, e5, hw⟩
    cases i with
    | ireturn =>
      have hn : n = 1 := hn.elim (fun z => Bool.noConfusion (show false = true from z)) id
      subst hn
      obtain ⟨ty, x, w, e1, rfl, rfl, hr1, hr2, hw⟩ := rets 0 h
      obtain ⟨y, rfl⟩ := zi_vr_int hw (Nat.eq_of_beq_eq_true hr2)
      exact W.zret hx hb (hret.trans e1) (zi_rok_int hr1 hw) (post (some (.int y)) hw) hf hd hlk
    | lreturn =>
      have hn : n = 1 := hn.elim (fun z => Bool.noConfusion (show false = true from z)) id
      subst hn
      obtain ⟨ty, x, w, e1, rfl, rfl, hr1, hr2, hw⟩ := rets 1 h
      have hk := Nat.eq_of_beq_eq_true hr2
      obtain ⟨y, rfl⟩ := zi_vr_long hw hk
      have := zi_rok_long hr1 hk
      subst this
      exact W.lret hx hb (hret.trans e1) (post (some (.long y)) hw) hf hd hlk
    | areturn =>
      have hn : n = 1 := hn.elim (fun z => Bool.noConfusion (show false = true from z)) id
      subst hn
      obtain ⟨ty, x, w, e1, rfl, rfl, hr1, hr2, hw⟩ := rets 2 h
      have hk := Nat.le_of_ble_eq_true hr2
      exact W.aret hx hb (hret.trans e1) (zi_rok_ref hr1 hk) (zi_vr_ref hw hk) (post (some w) hw) hf hd hlk
    | return_ =>
      have hn : n = 1 := hn.elim (fun z => Bool.noConfusion (show false = true from z)) id
      subst hn
      obtain ⟨e1, e2, e3⟩ := zi_rtv_inv _ _ h
      subst e3
      have h6 : zi_F2 (zi_vr (zi_ad adK adV b ws)) st sc := h6
      rw [e2] at h6
      have := zi_F2_nil h6
      subst this
      exact W.vret hx hb (hret.trans e1) (post none trivial) hf hd hlk
    | _ => cases hisr
  · cases h
theorem zi_loop_ok (C : zi_Cx p R s m args meth c B0 D dA adK adV b M d []) (hct : zi_Ct l Ms d call) (hMs : ∀ (mi : Nat) (N : zi_M), Ms[mi]? = some N → zi_okM N) (hT : zi_okT Ms M) {ws0 : va_W} : ∀ (n : Nat) {f : zi_F} {r : zi_R}, zi_loop call M n f = some r → r.2.2.1 ≤ R.cells → r.2.2.2 ≤ R.slots → (f.2.2.2.2.1 ≤ r.2.2.1 ∧ f.2.2.2.2.2 ≤ r.2.2.2) ∧ ∀ (ws : va_W) (H : Heap) (locs : List Loc) (ls : Array Slot) (sc : List Value), zi_ex ws0 ws → zi_St B0 D dA adK adV b M.2.2.1 s f ws H locs ls sc →
    zi_W p l e R s m args below meth c (MQ below (zi_Q B0 D dA adK adV b ws0 r.1 r.2.1) args s r.2.2.1 r.2.2.2 (fun q => B0 ≤ q)) f.2.2.2.2.1 f.2.2.2.2.2 f.1 H locs ls sc
  | 0, f, r, h, _, _ => by cases h
  | n + 1, f, r, h, hc, hs => by
    have h : (match zi_stp call [] M f with | some (.inl g) => bif zi_up f g then zi_loop call M n g else none | some (.inr v) => some (v, f.2.2.2.1, f.2.2.2.2.1, f.2.2.2.2.2) | none => none) = some r := h
    split at h
    · rename_i x hx
      cases hu : zi_up f x with
      | false => rw [hu] at h; cases h
      | true =>
        rw [hu] at h
        obtain ⟨h1, h2⟩ := zi_loop_ok C hct hMs hT n h hc hs
        unfold zi_up at hu
        rw [Bool.and_eq_true] at hu
        have u1 := Nat.le_of_ble_eq_true hu.1
        have u2 := Nat.le_of_ble_eq_true hu.2
        refine ⟨⟨Nat.le_trans u1 h1.1, Nat.le_trans u2 h1.2⟩, fun ws H locs ls sc hex hS => ?_⟩
        exact zi_stp_go C hct hMs hT hx _ ws H locs ls sc hS (Nat.le_trans h1.1 hc) (Nat.le_trans h1.2 hs) (fun ws' H' locs' ls' sc' hex' hS' => h2 ws' H' locs' ls' sc' (zi_ex_trans hex hex') hS')
    · rename_i v hv
      cases h
      exact ⟨⟨Nat.le_refl _, Nat.le_refl _⟩, fun ws H locs ls sc hex hS => zi_stp_ret C hT hv hex hS⟩
    · cases h
end ZR
theorem zi_sl_len : ∀ vs : List Value, (lg_sl vs).length = (vs.map fun v => v.category).sum
  | [] => rfl
  | v :: vs => by
    have e1 : lg_sl (v :: vs) = (if v.category = 2 then [Slot.val v, Slot.second] else [Slot.val v]) ++ lg_sl vs := rfl
    rw [e1, List.length_append, zi_sl_len vs, List.map_cons, List.sum_cons]
    rcases lv_cat v with h | h
    · rw [h, if_neg (by decide)]; rfl
    · rw [h, if_pos rfl]; rfl
theorem zi_MetW {l : Launch} {y : MethodName} {ws ws' : List Cond} {rm : Room} {Pc : Array Value → State → Prop} {Qc : Array Value → State → Outcome → State → Prop} {mc ms : Nat} {free : Addr → Prop} {cc : ByteArray} {maxL : Nat} {ret : Option FieldType}
    (hy : plainFor y = true) (hw : ws = Cond.code y cc maxL ret :: ws')
    (body : ∀ p e s m args below meth c s₁, BodyLoose p l y (headSpec ws rm) cc maxL ret e s m args below meth c s₁ → c.maxLocals = maxL → Pc args s →
      W p l e (headSpec ws rm).room s m args below meth c s.heap [] 0 0 (MQ below Qc args s mc ms free) (entryFrame m args maxL)) : Met l y ws rm Pc Qc mc ms free := by
  refine MetFree.of_bodySF (code := cc) (maxLocals := maxL) (ret := ret) hy ?_ ?_
  · intro args s m h hn
    obtain ⟨meth, c, h1, h2, h3, h4, h5, h6, -, -⟩ := Cond.code_spec hn (atoms_spec (ws := ws) h _ (by rw [hw]; exact List.mem_cons_self))
    exact ⟨meth, c, h1, h2, h3, h4, h5, h6⟩
  · intro p e s m args below meth c s₁ B hml hP _
    have hh0 : s₁.heap = s.heap := by rw [B.state]; rfl
    obtain ⟨t, a1, o, b1, b2, b3⟩ := body p e s m args below meth c s₁ B hml hP s₁ hh0 (Stand.of_body B)
    exact ⟨t, o, a1, b1, b2, ⟨b3.1, b3.2⟩⟩
theorem zi_ev_ok {l : Launch} {Ms : List zi_M} (hMs : ∀ (mi : Nat) (N : zi_M), Ms[mi]? = some N → zi_okM N ∧ zi_okT Ms N) (n : Nat) : ∀ d : Nat, zi_Ct l Ms d (zi_ev Ms n d)
  | 0 => fun mi avs A r h => by cases h
  | d + 1 => fun mi avs A r h => by
    have ih := zi_ev_ok (l := l) hMs n d
    have h : (match Ms[mi]? with | some M => bif Nat.ble (zi_cats avs) M.2.2.1 then zi_loop (zi_ev Ms n d) M n (0, zi_ent 0 avs, [], A, 0, 0) else none | none => none) = some r := h
    cases hM : Ms[mi]? with
    | none => rw [hM] at h; cases h
    | some M =>
      rw [hM] at h
      dsimp only at h
      cases hb : Nat.ble (zi_cats avs) M.2.2.1 with
      | false => rw [hb] at h; cases h
      | true =>
        rw [hb] at h
        have hb := Nat.le_of_ble_eq_true hb
        have h : zi_loop (zi_ev Ms n d) M n (0, zi_ent 0 avs, [], A, 0, 0) = some r := h
        obtain ⟨hok, hT⟩ := hMs mi M hM
        refine ⟨M, rfl, ?_⟩
        intro B0 D dA adK adV b ws vs hvs hA
        refine zi_MetW (cc := M.2.1) (maxL := M.2.2.1) (ret := M.2.2.2.1) hok.2.2.2.1 rfl ?_
        intro p e s m args below meth c s₁ B hml hv
        obtain ⟨rfl, hX, hP, hD⟩ := hv
        have hts := atoms_spec (ws := zi_ws M) B.pre
        have hcat := zi_cats_ok hvs
        have hl := lv_entry vs (n := M.2.2.1) (by rw [zi_sl_len, hcat]; exact hb)
        rw [lg_entry_eq]
        have C : zi_Cx p (headSpec (zi_ws M) (zi_room (d + 1) r.2.2.1 r.2.2.2)).room s m vs.toArray meth c B0 D dA adK adV b M d [] :=
          ⟨⟨B.exec, B.bytes, hml, B.returns, findClass_of_methodNamed B.named, fun w hw => hts w (List.mem_cons_of_mem _ hw), B.notSynchronized, (name_of_methodNamed B.named B.method).1⟩, hX, ⟨Nat.le_refl _, Nat.le_refl _⟩, Or.inl rfl⟩
        exact (zi_loop_ok C ih (fun mi N hN => (hMs mi N hN).1) hT n h (Nat.le_refl _) (Nat.le_refl _)).2 ws s.heap [] _ [] (zi_ex_refl ws) ⟨hP, hD, va_S.rf, hA, ⟨_, hl, zi_ent_ok hvs 0⟩, trivial⟩
