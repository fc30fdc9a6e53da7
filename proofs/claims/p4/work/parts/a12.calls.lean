/-! Calls: the contract that a run gives, and its use. -/
def zi_ws (N : zi_M) : List Cond := Cond.code N.1 N.2.1 N.2.2.1 N.2.2.2.1 :: zi_gd
def zi_room (d nc ns : Nat) : Room := { frames := d, cells := nc, slots := ns, locals := 60 * d }
def zi_Pc (B0 : Nat) (D : va_G) (dA : Nat → ClassId) (adK adV : Nat → Nat) (ws : va_W) (vs : List Value) : Array Value → State → Prop := va_Pc vs (fun U => zi_X B0 D dA adK adV U ∧ va_P D zi_cl ws U.heap ∧ va_D (fun q => B0 ≤ q) ws)
def zi_ro (ad : Nat → Option Nat) (r : Option zi_V) (v : Option Value) : Prop := match r, v with
  | none, none => True
  | some x, some w => zi_vr ad x w
  | _, _ => False
def zi_Q (B0 : Nat) (D : va_G) (dA : Nat → ClassId) (adK adV : Nat → Nat) (b : Nat) (ws : va_W) (rv : Option zi_V) (A' : List zi_C) : Array Value → State → Outcome → State → Prop := fun _ st oc t =>
  (∃ (v : Option Value) (ws' : va_W), oc = .returned v ∧ zi_ex ws ws' ∧ zi_ro (zi_ad adK adV b ws') rv v ∧ zi_F2 (zi_cr (zi_ad adK adV b ws') dA) A' ws' ∧ va_P D zi_cl ws' t.heap ∧ va_D (fun q => B0 ≤ q) ws') ∧ va_F (fun q => B0 ≤ q) st t
def zi_Met (l : Launch) (N : zi_M) (d : Nat) (avs : List zi_V) (A : List zi_C) (rv : Option zi_V) (A' : List zi_C) (nc ns : Nat) : Prop := ∀ (B0 : Nat) (D : va_G) (dA : Nat → ClassId) (adK adV : Nat → Nat) (b : Nat) (ws : va_W) (vs : List Value), zi_F2 (zi_vr (zi_ad adK adV b ws)) avs vs → zi_F2 (zi_cr (zi_ad adK adV b ws) dA) A ws →
  Met l N.1 (zi_ws N) (zi_room d nc ns) (zi_Pc B0 D dA adK adV ws vs) (zi_Q B0 D dA adK adV b ws rv A') nc ns (fun q => B0 ≤ q)
def zi_Ct (l : Launch) (Ms : List zi_M) (d : Nat) (call : zi_K) : Prop := ∀ (mi : Nat) (avs : List zi_V) (A : List zi_C) (r : zi_R), call mi avs A = some r → ∃ N, Ms[mi]? = some N ∧ zi_Met l N d avs A r.1 r.2.1 r.2.2.1 r.2.2.2
def zi_okM (N : zi_M) : Prop := Cond.code N.1 N.2.1 N.2.2.1 N.2.2.2.1 ∈ zi_gd ∧ Cond.initialized N.1.cls ∈ zi_gd ∧ (N.1.cls ≠ "java/lang/invoke/MethodHandle" ∧ N.1.cls ≠ "java/lang/invoke/VarHandle") ∧ plainFor N.1 = true ∧ N.2.2.1 ≤ 41
theorem zi_good {N : zi_M} (h : zi_okM N) : GoodIn zi_gd (zi_ws N) := by
  intro w hw
  have hm : w ∈ zi_gd := by
    rcases List.mem_cons.mp hw with e | e
    · rw [e]; exact h.1
    · exact e
  exact ⟨hm, good_of_word (List.mem_filter.mp hm).2⟩
theorem zi_goodL {ws : List Cond} (h : ∀ w ∈ ws, w ∈ zi_gd) : GoodIn zi_gd ws := fun w hw => ⟨h w hw, good_of_word (List.mem_filter.mp (h w hw)).2⟩
section ZC
variable {p : Program} {l : Launch} {e : Env} {R : Room} {s : State} {m : MethodId} {args : Array Value} {below : List Frame} {meth : Method} {c : Code} {B0 : Nat} {D : va_G} {dA : Nat → ClassId} {adK adV : Nat → Nat} {b : Nat} {M : zi_M} {d : Nat} {sl : List zi_V}
variable {pc : Nat} {al : List (Nat × zi_V)} {st : List zi_V} {A : List zi_C} {nc ns : Nat} {g : zi_F} {Ms : List zi_M} {call : zi_K}
theorem zi_callW {H : Heap} {locs : List Loc} {ls : Array Slot} {st0 rest : List Value} {Q : State → Prop} {mc ms : Nat} {ws : va_W} {rv : Option zi_V} {A' : List zi_C} {a : Array Value} (hr : va_Run p l e R s m args below meth c H locs nc ns mc ms (F0 m pc ls st0) rest (zi_Q B0 D dA adK adV b ws rv A' a) (fun q => B0 ≤ q)) (hS : va_S (fun q => B0 ≤ q) s.heap H locs)
    (kk : ∀ (v : Option Value) (ws' : va_W) (H1 : Heap) (locs1 : List Loc), zi_ex ws ws' → zi_ro (zi_ad adK adV b ws') rv v → zi_F2 (zi_cr (zi_ad adK adV b ws') dA) A' ws' → va_P D zi_cl ws' H1 → va_D (fun q => B0 ≤ q) ws' → va_S (fun q => B0 ≤ q) s.heap H1 locs1 → zi_W p l e R s m args below meth c Q (nc + mc) (ns + ms) (pc + 3) H1 locs1 ls (v.toList ++ rest)) : zi_W p l e R s m args below meth c Q nc ns pc H locs ls st0 := by
  intro T hT X
  obtain ⟨v, st₀, t, T', L, h0, X', hL, e1, e2, ⟨⟨v', ws', hv, hex, hro, hF, hP, hD⟩, hz, hk⟩, stp⟩ := hr T hT X
  cases hv
  rw [h0] at hz hk
  obtain ⟨t2, a1, b1⟩ := kk v ws' T'.heap (locs ++ L) hex hro hF (by rw [e1]; exact hP) hD
    ⟨Nat.le_trans hS.1 (by rw [e1]; exact hz), fun q h1 h2 => by rw [e1, hk q (Nat.lt_of_lt_of_le h1 hS.1) h2]; exact hS.2.1 q h1 h2, fun q hq => by
      rcases List.mem_append.mp hq with h | h
      · exact hS.2.2 q h
      · exact hL q h⟩ T' rfl X'
  exact ⟨t2, stp t2 a1, b1⟩
theorem zi_go_inv (hct : zi_Ct l Ms d call) {mi k : Nat}
    (hrun : ∀ (N : zi_M), Ms[mi]? = some N → ∀ (rv : Option zi_V) (A' : List zi_C) (mc ms : Nat) (ws : va_W) (H : Heap) (locs : List Loc) (ls : Array Slot) (vs rest : List Value), Met l N.1 (zi_ws N) (zi_room d mc ms) (zi_Pc B0 D dA adK adV ws vs) (zi_Q B0 D dA adK adV b ws rv A') mc ms (fun q => B0 ≤ q) → va_P D zi_cl ws H → va_D (fun q => B0 ≤ q) ws → va_S (fun q => B0 ≤ q) s.heap H locs → zi_F2 (zi_cr (zi_ad adK adV b ws) dA) A ws → zi_F2 (zi_vr (zi_ad adK adV b ws)) (st.take k).reverse vs → vs.length = k → ls.size = M.2.2.1 → (rest.map fun v => v.category).sum ≤ 8 → nc + mc ≤ R.cells → ns + ms ≤ R.slots →
      va_Run p l e R s m args below meth c H locs nc ns mc ms (F0 m pc ls (vs.reverse ++ rest)) rest (zi_Q B0 D dA adK adV b ws rv A' vs.toArray) (fun q => B0 ≤ q))
    (h : zi_inv call pc 3 al st A nc ns mi k = some (.inl g)) : zi_Go p l e R s m args below meth c B0 D dA adK adV b M.2.2.1 (pc, al, st, A, nc, ns) g := by
  unfold zi_inv at h
  cases hb1 : (Nat.ble k st.length && Nat.ble (zi_cats (st.drop k)) 8) with
  | false => rw [hb1] at h; cases h
  | true =>
    rw [hb1] at h
    rw [Bool.and_eq_true] at hb1
    have hk := Nat.le_of_ble_eq_true hb1.1
    have h8 := Nat.le_of_ble_eq_true hb1.2
    simp only [cond_true] at h
    split at h
    · rename_i r hr
      obtain ⟨N, hN, hM⟩ := hct mi _ _ r hr
      have main : ∀ (Q : State → Prop) (ws : va_W) (H : Heap) (locs : List Loc) (ls : Array Slot) (sc : List Value), zi_St B0 D dA adK adV b M.2.2.1 s (pc, al, st, A, nc, ns) ws H locs ls sc → nc + r.2.2.1 ≤ R.cells → ns + r.2.2.2 ≤ R.slots → (∀ (v : Option Value) (ws' : va_W) (H' : Heap) (locs' : List Loc) (ls' : Array Slot) (sc' : List Value), zi_ex ws ws' → zi_ro (zi_ad adK adV b ws') r.1 v → zi_F2 (zi_cr (zi_ad adK adV b ws') dA) r.2.1 ws' → va_P D zi_cl ws' H' → va_D (fun q => B0 ≤ q) ws' → va_S (fun q => B0 ≤ q) s.heap H' locs' → (∃ lv, lv_has ls' M.2.2.1 lv ∧ zi_F2 (zi_lr (zi_ad adK adV b ws')) al lv) → zi_F2 (zi_vr (zi_ad adK adV b ws')) (st.drop k) sc' → zi_W p l e R s m args below meth c Q (nc + r.2.2.1) (ns + r.2.2.2) (pc + 3) H' locs' ls' (v.toList ++ sc')) → zi_W p l e R s m args below meth c Q nc ns pc H locs ls sc := by
        intro Q ws H locs ls sc hS hc1 hc2 kk
        obtain ⟨h1, h2, h3, h4, ⟨lv, h5, h7⟩, h6⟩ := hS
        have hlen := zi_F2_len h6
        have hlen : st.length = sc.length := hlen
        have hav := zi_F2_rev (zi_F2_take h6 k)
        have hdr := zi_F2_drop h6 k
        have hcat := zi_cats_ok hdr
        have run := hrun N hN r.1 r.2.1 r.2.2.1 r.2.2.2 ws H locs ls (sc.take k).reverse (sc.drop k) (hM B0 D dA adK adV b ws _ hav h4) h1 h2 h3 h4 hav (by rw [List.length_reverse, List.length_take]; omega) h5.1 (by
          rw [hcat]
          exact h8) hc1 hc2
        rw [List.reverse_reverse, List.take_append_drop] at run
        refine zi_callW run h3 (fun v ws' H1 locs1 hex hro hF hP hD hS => ?_)
        have hm := zi_ex_mo (adK := adK) (adV := adV) (b := b) hex
        exact kk v ws' H1 locs1 ls _ hex hro hF hP hD hS ⟨lv, h5, zi_F2_mono (fun _ _ h => ⟨h.1, zi_vr_mo hm h.2⟩) h7⟩ (zi_F2_mono (fun _ _ => zi_vr_mo hm) hdr)
      split at h
      · rename_i v hv
        cases h
        intro Q ws H locs ls sc hS hc1 hc2 kk
        refine main Q ws H locs ls sc hS hc1 hc2 (fun w ws' H1 locs1 ls1 sc1 hex hro hF hP hD hS hl hst => ?_)
        rw [hv] at hro
        cases w with
        | none => exact hro.elim
        | some w => exact kk ws' H1 locs1 ls1 _ hex ⟨hP, hD, hS, hF, hl, ⟨hro, hst⟩⟩
      · rename_i hv
        cases h
        intro Q ws H locs ls sc hS hc1 hc2 kk
        refine main Q ws H locs ls sc hS hc1 hc2 (fun w ws' H1 locs1 ls1 sc1 hex hro hF hP hD hS hl hst => ?_)
        rw [hv] at hro
        cases w with
        | some w => exact hro.elim
        | none => exact kk ws' H1 locs1 ls1 _ hex ⟨hP, hD, hS, hF, hl, hst⟩
    · cases h
theorem zi_pre {ws : va_W} {H : Heap} {locs : List Loc} {vs : List Value} (hX : zi_X B0 D dA adK adV s) (h1 : va_P D zi_cl ws H) (h2 : va_D (fun q => B0 ≤ q) ws) (h3 : va_S (fun q => B0 ≤ q) s.heap H locs) : FrameBlind (zi_Pc B0 D dA adK adV ws vs) ∧ ∀ U : State, U.heap = H → s.WarmedH U.vm → zi_Pc B0 D dA adK adV ws vs vs.toArray U :=
  ⟨fun a U g mk q => ⟨q.1, zi_X_cl q.2.1, q.2.2⟩, fun U hU hW => ⟨rfl, zi_X_mv hX hW hU h3, by rw [hU]; exact h1, h2⟩⟩
theorem zi_rm {N : zi_M} {mc ms : Nat} (hN : zi_okM N) (hR : d + 1 ≤ R.frames ∧ 60 * (d + 1) ≤ R.locals) : (zi_room d mc ms).frames + 1 ≤ R.frames ∧ 8 + (N.2.2.1 + 11) + (zi_room d mc ms).locals ≤ R.locals := by
  have h := hN.2.2.2.2
  exact ⟨hR.1, by show 8 + (N.2.2.1 + 11) + 60 * d ≤ R.locals; omega⟩
end ZC
