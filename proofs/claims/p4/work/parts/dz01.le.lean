/-! More fuel, more depth: the same run; so a total contract is a partial one at every depth. -/
def yi_cle (c c' : yi_K) : Prop := ∀ mi vs H r, c mi vs H = some r → c' mi vs H = some r
section YLE
variable {c c' : yi_K} {pc n nL : Nat} {al : List (Nat × yi_V)} {st : List yi_V} {H : yi_H} {nc ns : Nat} {sl : List Int} {ret : Option FieldType}
theorem yi_inv_le (h : yi_cle c c') {mi k : Nat} {x : yi_F ⊕ Option yi_V} (e : yi_inv pc n al st H nc ns c mi k = some x) : yi_inv pc n al st H nc ns c' mi k = some x := by
  unfold yi_inv at e ⊢
  cases hb : (Nat.ble k st.length && Nat.ble (yi_cats (st.drop k)) 8) with
  | false => rw [hb] at e; cases e
  | true =>
    rw [hb] at e
    dsimp only [cond_true] at e ⊢
    cases hq : c mi (st.take k).reverse H with
    | none => rw [hq] at e; cases e
    | some q =>
      rw [hq] at e
      rw [h _ _ _ _ hq]
      exact e
theorem yi_do_le (h : yi_cle c c') (i : Instr) (o : List Nat) {x : yi_F ⊕ Option yi_V} (e : yi_do c sl nL ret pc al st H nc ns i n o = some x) : yi_do c' sl nL ret pc al st H nc ns i n o = some x := by
  cases i with
  | invokestatic j =>
    match o, e with
    | [], e => exact e
    | [z], e => exact e
    | mi :: k :: _, e => exact yi_inv_le h e
  | invokespecial j =>
    match o, e with
    | [], e => exact e
    | [_], e => exact e
    | mi :: k :: _, e =>
      have e : (match st[k - 1]? with | some (.inr (.inr (some _))) => bif Nat.ble 1 k then yi_inv pc n al st H nc ns c mi k else none | _ => none) = some x := e
      show (match st[k - 1]? with | some (.inr (.inr (some _))) => bif Nat.ble 1 k then yi_inv pc n al st H nc ns c' mi k else none | _ => none) = some x
      cases hq : st[k - 1]? with
      | none => rw [hq] at e; cases e
      | some v =>
        rw [hq] at e
        match v, e with
        | .inl _, e => cases e
        | .inr (.inl _), e => cases e
        | .inr (.inr none), e => cases e
        | .inr (.inr (some _)), e =>
          have e : (bif Nat.ble 1 k then yi_inv pc n al st H nc ns c mi k else none) = some x := e
          show (bif Nat.ble 1 k then yi_inv pc n al st H nc ns c' mi k else none) = some x
          cases hb : Nat.ble 1 k with
          | true => rw [hb] at e; exact yi_inv_le h e
          | false => rw [hb] at e; cases e
  | invokevirtual j =>
    match o, e with
    | [], e => exact e
    | [_], e => exact e
    | [_, _], e => exact e
    | mi :: k :: ci :: _, e =>
      have e : (bif Nat.ble 1 k && yi_rcv H ci st[k - 1]? then yi_inv pc n al st H nc ns c mi k else none) = some x := e
      show (bif Nat.ble 1 k && yi_rcv H ci st[k - 1]? then yi_inv pc n al st H nc ns c' mi k else none) = some x
      cases hb : (Nat.ble 1 k && yi_rcv H ci st[k - 1]?) with
      | true => rw [hb] at e; exact yi_inv_le h e
      | false => rw [hb] at e; cases e
  | _ => exact e
theorem yi_stp_le (h : yi_cle c c') {M : zi_M} {f : yi_F} {q : yi_F ⊕ Option yi_V} (e : yi_stp c sl M f = some q) : yi_stp c' sl M f = some q := by
  unfold yi_stp at e ⊢
  cases hl : zi_lk2 f.1 M.2.2.2.2.1 with
  | none => rw [hl] at e; cases e
  | some a =>
    rw [hl] at e
    dsimp only at e ⊢
    cases hd : yi_do c sl M.2.2.1 M.2.2.2.1 f.1 f.2.1 f.2.2.1 f.2.2.2.1 f.2.2.2.2.1 f.2.2.2.2.2 a.1 a.2.1 a.2.2 with
    | none => rw [hd] at e; cases e
    | some x => rw [hd] at e; rw [yi_do_le h _ _ hd]; exact e
theorem yi_loop_le (h : yi_cle c c') {M : zi_M} {r : yi_R} : ∀ (k k' : Nat) (f : yi_F), k ≤ k' → yi_loop c M k f = some r → yi_loop c' M k' f = some r
  | 0, _, f, _, e => by cases (show (none : Option yi_R) = some r from e)
  | k + 1, 0, f, hk, _ => absurd hk (by omega)
  | k + 1, k' + 1, f, hk, e => by
    have e : (match yi_stp c [] M f with | some (.inl g) => bif yi_up f g then yi_loop c M k g else none | some (.inr v) => some (v, f.2.2.2.1, f.2.2.2.2.1, f.2.2.2.2.2) | none => none) = some r := e
    show (match yi_stp c' [] M f with | some (.inl g) => bif yi_up f g then yi_loop c' M k' g else none | some (.inr v) => some (v, f.2.2.2.1, f.2.2.2.2.1, f.2.2.2.2.2) | none => none) = some r
    cases hs : yi_stp c [] M f with
    | none => rw [hs] at e; cases e
    | some q =>
      rw [hs] at e
      rw [yi_stp_le h hs]
      cases q with
      | inr v => exact e
      | inl g =>
        dsimp only at e ⊢
        cases hu : yi_up f g with
        | false => rw [hu] at e; cases e
        | true => rw [hu] at e; exact yi_loop_le h k k' g (by omega) e
end YLE
theorem yi_ev_le {Ms : List zi_M} : ∀ (d d' n n' : Nat), d ≤ d' → n ≤ n' → yi_cle (yi_ev Ms n d) (yi_ev Ms n' d')
  | 0, _, _, _, _, _ => fun mi vs H r e => by cases (show (none : Option yi_R) = some r from e)
  | d + 1, 0, _, _, h, _ => absurd h (by omega)
  | d + 1, d' + 1, n, n', h, hn => fun mi vs H r e => by
    have e : (match Ms[mi]? with | some M => bif Nat.ble (yi_cats vs) M.2.2.1 then yi_loop (yi_ev Ms n d) M n (0, yi_ent 0 vs, [], H, 0, 0) else none | none => none) = some r := e
    show (match Ms[mi]? with | some M => bif Nat.ble (yi_cats vs) M.2.2.1 then yi_loop (yi_ev Ms n' d') M n' (0, yi_ent 0 vs, [], H, 0, 0) else none | none => none) = some r
    cases hm : Ms[mi]? with
    | none => rw [hm] at e; cases e
    | some M =>
      rw [hm] at e
      dsimp only at e ⊢
      cases hb : Nat.ble (yi_cats vs) M.2.2.1 with
      | false => rw [hb] at e; cases e
      | true => rw [hb] at e; exact yi_loop_le (yi_ev_le d d' n n' (by omega) hn) n n' _ hn e
theorem yi_EP {Ms : List zi_M} {D d mi : Nat} {vs : List yi_V} {H : yi_H} {Q : yi_R → Prop} (h : yi_E Ms D mi vs H Q) : yi_P Ms d mi vs H Q := by
  intro n r e
  obtain ⟨r', hq, n0, h0⟩ := h
  have e1 := yi_ev_le d (max d D) n (max n n0) (Nat.le_max_left ..) (Nat.le_max_left ..) mi vs H r e
  have e2 := yi_ev_le (Ms := Ms) D (max d D) (max n n0) (max n n0) (Nat.le_max_right ..) (Nat.le_refl _) mi vs H r' (h0 _ (Nat.le_max_right ..))
  rw [e1] at e2
  rw [Option.some.inj e2]
  exact hq
