/-! Cells: loads, stores, what is made. -/
theorem yi_fit_z {ty : FieldType} {v : yi_V} {w : zi_V} (hr : yi_vr v w) (hf : yi_fit ty v = true) : zi_fit ty w = true := by
  unfold yi_fit at hf
  split at hf
  · obtain ⟨x, rfl, -⟩ := hr
    show (decide (narrow .int (.int x) = .int x) && fits .int (.int x)) = true
    rw [decide_eq_true (vp_nar_int x)]
    rfl
  · obtain ⟨x, rfl, e⟩ := hr
    rw [Bool.or_eq_true, decide_eq_true_eq, decide_eq_true_eq] at hf
    rcases hf with z | z
    · have : x = 0 := yi_zero.mpr (e.trans z)
      subst this
      decide
    · have : x = 1 := by rw [zi_ieq, e, z]; rfl
      subst this
      decide
  · obtain ⟨x, rfl, e⟩ := hr
    rw [decide_eq_true_eq] at hf
    have : x = 0 := yi_zero.mpr (e.trans hf)
    subst this
    decide
  · obtain ⟨x, rfl, e⟩ := hr
    rename_i z
    rw [Bool.and_eq_true, decide_eq_true_eq, decide_eq_true_eq] at hf
    have hx : x = nI z.toNat := by
      rw [zi_ieq, nI_toInt (by omega), e]
      omega
    have := pk_charN (q := z.toNat) (by omega)
    rw [hx]
    show (decide (narrow .char (.int (nI z.toNat)) = .int (nI z.toNat)) && fits .char (.int (nI z.toNat))) = true
    rw [decide_eq_true this.1, this.2]
    rfl
  · obtain ⟨x, rfl, e⟩ := hr
    show (decide (narrow .long (.long x) = .long x) && fits .long (.long x)) = true
    rw [Bool.and_eq_true]
    exact ⟨decide_eq_true rfl, rfl⟩
  · rename_i nm p
    cases p with
    | none =>
      have hr : w = .inl .null := hr
      subst hr
      show (decide (narrow (.object nm) .null = .null) && fits (.object nm) .null) = true
      rw [Bool.and_eq_true]
      exact ⟨decide_eq_true rfl, rfl⟩
    | some p =>
      have hr : w = .inl (.ref p) := hr
      subst hr
      show (decide (narrow (.object nm) (.ref p) = .ref p) && fits (.object nm) (.ref p)) = true
      rw [Bool.and_eq_true]
      exact ⟨decide_eq_true rfl, rfl⟩
  · rename_i nm p
    cases p with
    | none =>
      have hr : w = .inl .null := hr
      subst hr
      show (decide (narrow (.array nm) .null = .null) && fits (.array nm) .null) = true
      rw [Bool.and_eq_true]
      exact ⟨decide_eq_true rfl, rfl⟩
    | some p =>
      have hr : w = .inl (.ref p) := hr
      subst hr
      show (decide (narrow (.array nm) (.ref p) = .ref p) && fits (.array nm) (.ref p)) = true
      rw [Bool.and_eq_true]
      exact ⟨decide_eq_true rfl, rfl⟩
  · cases hf
theorem yi_fit_vk {ty : FieldType} {v : yi_V} (hf : yi_fit ty v = true) : yi_vk (yi_tk ty) v := by
  unfold yi_fit at hf
  split at hf
  · trivial
  · trivial
  · trivial
  · trivial
  · trivial
  · trivial
  · trivial
  · cases hf
section YS
variable {pc n : Nat} {al : List (Nat × yi_V)} {zal : List (Nat × zi_V)} {st : List yi_V} {zst : List zi_V} {H : yi_H} {A : List zi_C} {nc ns : Nat}
theorem yi_get_ok (h : yi_B al zal st zst H A) (ci k : Nat) : yi_or (yi_get pc n al st H nc ns ci k) (zi_get pc n zal zst A nc ns ci k) := by
  unfold yi_get
  split
  · rename_i p rest
    obtain ⟨zr, rfl, h2⟩ := yi_top_r h.2.1
    unfold zi_get
    dsimp only
    cases hp : Nat.ble 10 p with
    | true =>
      simp only [cond_true]
      cases hc : (Nat.beq (H.2.2.2.1 p) ci && Nat.ble (k + 1) (zi_Fs.getD ci ("", [])).2.length && Nat.ble (ci + 1) 20) with
      | false => trivial
      | true =>
        simp only [Bool.and_eq_true] at hc
        have c1 := Nat.eq_of_beq_eq_true hc.1.1
        have c2 := Nat.le_of_ble_eq_true hc.1.2
        have c3 := Nat.le_of_ble_eq_true hc.2
        obtain ⟨-, fs, e1, e2, e3⟩ := yi_obj_at h.2.2 c1 (by omega)
        rw [e1]
        dsimp only
        rw [Nat.beq_refl]
        simp only [cond_true]
        cases hv : fs[k]? with
        | none => rw [List.getElem?_eq_none_iff] at hv; omega
        | some v => exact yi_mk h.1 ⟨e3 k v hv, h2⟩ h.2.2
    | false =>
      simp only [cond_false]
      cases hc : (Nat.ble (p + 1) 4 && Nat.beq ci 100) with
      | false => trivial
      | true =>
        simp only [cond_true]
        cases Nat.beq k 0 with
        | true => exact yi_mk h.1 ⟨rfl, h2⟩ h.2.2
        | false =>
          simp only [cond_false]
          cases Nat.beq k 1 with
          | true => exact yi_mk h.1 ⟨⟨0, rfl, rfl⟩, h2⟩ h.2.2
          | false => trivial
  · trivial
theorem yi_put_ok (h : yi_B al zal st zst H A) (ci k : Nat) : yi_or (yi_put pc n al st H nc ns ci k) (zi_put pc n zal zst A nc ns ci k) := by
  unfold yi_put
  split
  · rename_i v p rest
    obtain ⟨w, zr, rfl, hw, h2⟩ := yi_top h.2.1
    obtain ⟨zr, rfl, h3⟩ := yi_top_r h2
    cases hc : (Nat.ble 10 p && (Nat.beq (H.2.2.2.1 p) ci && Nat.ble (k + 1) (zi_Fs.getD ci ("", [])).2.length && Nat.ble (ci + 1) 20 && yi_fit (zi_ty ci k) v)) with
    | false => trivial
    | true =>
      simp only [Bool.and_eq_true] at hc
      obtain ⟨hp, ⟨⟨b1, b2⟩, b3⟩, hf⟩ := hc
      have c1 := Nat.eq_of_beq_eq_true b1
      have c2 := Nat.le_of_ble_eq_true b2
      have c3 := Nat.le_of_ble_eq_true b3
      obtain ⟨hp', fs, e1, e2, e3⟩ := yi_obj_at h.2.2 c1 (by omega)
      unfold zi_put
      dsimp only
      rw [hp, e1]
      dsimp only [cond_true]
      rw [Nat.beq_refl, yi_fit_z hw hf, show Nat.ble (k + 1) fs.length = true from Nat.ble_eq_true_of_le (by omega)]
      refine yi_mk h.1 h3 (yi_hr_set h.2.2 hp' ((List.getElem?_eq_some_iff.mp e1).1) ?_)
      refine ⟨by rw [yi_wrt_K]; exact c1, by omega, by rw [List.length_set]; exact e2, fun k' v' hv => ?_⟩
      by_cases hk : k' = k
      · subst hk
        have hl : k' < fs.length := by omega
        have e : w = v' := by simpa [hl] using hv
        rw [yi_rd_eq (yi_fit_vk hf), ← e]
        exact hw
      · rw [List.getElem?_set_ne (fun z => hk z.symm)] at hv
        rw [yi_rd_ne (fun z => hk z.2)]
        exact e3 k' v' hv
  · trivial
theorem yi_in_ok {x : Int32} {m : Nat} (h0 : 0 ≤ x.toInt) (h1 : x.toInt < m) : zi_in x m = true := by
  unfold zi_in
  have e1 : decide (x < 0) = false := decide_eq_false (fun z => by
    rw [zi_ilt] at z
    have : (0 : Int32).toInt = 0 := rfl
    omega)
  rw [e1, yi_clamp h0, Nat.ble_eq_true_of_le (show x.toInt.toNat + 1 ≤ m by omega)]
  rfl
theorem yi_lenI {m : Nat} (h : m ≤ 1000000) : (Int32.ofNat m).toInt = (m : Int) := nI_toInt (n := m) (by omega)
theorem yi_len_ok (h : yi_B al zal st zst H A) {sl : List Int} {zsl : List zi_V} (hl : sl.length = zsl.length) (hsm : sl.length ≤ 1000000) : yi_or (yi_len pc n al st H nc ns sl) (zi_len zsl pc n zal zst A nc ns) := by
  unfold yi_len
  split
  · rename_i p rest
    obtain ⟨zr, rfl, h2⟩ := yi_top_r h.2.1
    unfold zi_len
    dsimp only
    cases hp : Nat.ble 10 p with
    | true =>
      simp only [cond_true]
      cases hc : (Nat.ble 20 (H.2.2.2.1 p) && Nat.ble (H.2.2.2.1 p) 26) with
      | false => trivial
      | true =>
        rw [Bool.and_eq_true] at hc
        obtain ⟨-, t, d, us, e1, e2, e3, e4, e5⟩ := yi_arr_at (p := p) h.2.2 (Nat.le_of_ble_eq_true hc.1) (Nat.le_of_ble_eq_true hc.2)
        rw [e3]
        dsimp only
        rw [Nat.ble_eq_true_of_le e2]
        exact yi_mk h.1 ⟨⟨_, rfl, yi_lenI e4⟩, h2⟩ h.2.2
    | false =>
      simp only [cond_false]
      cases hc : Nat.beq p 8 with
      | true =>
        simp only [cond_true]
        match sl, zsl, hl, hsm with
        | [], _, _, _ => trivial
        | a :: sl, [], hl, _ => cases hl
        | a :: sl, b :: zsl, hl, hsm =>
          refine yi_mk h.1 ⟨⟨_, rfl, ?_⟩, h2⟩ h.2.2
          rw [yi_lenI (by rw [← hl]; exact hsm), hl]
      | false =>
        simp only [cond_false]
        cases hd : (Nat.ble 4 p && Nat.ble (p + 1) 8) with
        | false => trivial
        | true =>
          rw [Bool.and_eq_true] at hd
          have d1 := Nat.le_of_ble_eq_true hd.1
          have d2 := Nat.le_of_ble_eq_true hd.2
          refine yi_mk h.1 ⟨⟨_, rfl, ?_⟩, h2⟩ h.2.2
          rcases (show p = 4 ∨ p = 5 ∨ p = 6 ∨ p = 7 by omega) with z | z | z | z <;> subst z <;> decide
  · trivial
theorem yi_ald_ok (h : yi_B al zal st zst H A) (t : Nat) {sl : List Int} {zsl : List zi_V} (hl : zi_F2 (fun z v => yi_vr (.inl z) v) sl zsl) : yi_or (yi_ald pc n al st H nc ns t sl) (zi_ald t zsl pc n zal zst A nc ns) := by
  unfold yi_ald
  split
  · rename_i z p rest
    obtain ⟨x, zr, rfl, rfl, h1⟩ := yi_top_i h.2.1
    obtain ⟨zr, rfl, h2⟩ := yi_top_r h1
    unfold zi_ald
    dsimp only
    cases hp : Nat.ble 10 p with
    | true =>
      simp only [cond_true]
      cases hc : (((Nat.beq (H.2.2.2.1 p) (20 + t) && Nat.ble t 6) || (Nat.beq t 7 && Nat.ble 24 (H.2.2.2.1 p) && Nat.ble (H.2.2.2.1 p) 26)) && decide (0 ≤ x.toInt) && decide (x.toInt < H.2.2.2.2.1 p)) with
      | false => trivial
      | true =>
        simp only [Bool.and_eq_true, Bool.or_eq_true, decide_eq_true_eq] at hc
        obtain ⟨⟨hk, x0⟩, x1⟩ := hc
        have hk' : (H.2.2.2.1 p = 20 + t ∧ t ≤ 6) ∨ (t = 7 ∧ 24 ≤ H.2.2.2.1 p ∧ H.2.2.2.1 p ≤ 26) := by
          rcases hk with z | z
          · exact Or.inl ⟨Nat.eq_of_beq_eq_true z.1, Nat.le_of_ble_eq_true z.2⟩
          · exact Or.inr ⟨Nat.eq_of_beq_eq_true z.1.1, Nat.le_of_ble_eq_true z.1.2, Nat.le_of_ble_eq_true z.2⟩
        obtain ⟨-, t', d, us, e1, e2, e3, e4, e5⟩ := yi_arr_at (p := p) h.2.2 (by omega) (by omega)
        rw [e3]
        dsimp only
        have hb : (((Nat.beq t' t && Nat.ble t' 6) || (Nat.beq t 7 && Nat.ble 4 t' && Nat.ble t' 6)) && zi_in x (H.2.2.2.2.1 p)) = true := by
          rw [yi_in_ok x0 x1, Bool.and_true, Bool.or_eq_true]
          rcases hk' with z | z
          · left
            have : t' = t := by omega
            subst this
            rw [Nat.beq_refl, Nat.ble_eq_true_of_le e2]
            rfl
          · right
            obtain ⟨z1, z2, z3⟩ := z
            subst z1
            rw [Nat.beq_refl, Nat.ble_eq_true_of_le (show 4 ≤ t' by omega), Nat.ble_eq_true_of_le e2]
            rfl
        rw [hb]
        have htk : zi_tk t = zi_tk t' := by
          rcases hk' with z | z
          · have : t' = t := by omega
            rw [this]
          · obtain ⟨z1, z2, z3⟩ := z
            subst z1
            rcases (show t' = 4 ∨ t' = 5 ∨ t' = 6 by omega) with y | y | y <;> subst y <;> rfl
        refine yi_mk h.1 ⟨?_, h2⟩ h.2.2
        rw [htk, yi_clamp x0]
        exact e5 x.toInt.toNat (by omega)
    | false =>
      simp only [cond_false]
      have hlen : sl.length = zsl.length := zi_F2_len hl
      cases hc : (Nat.beq p 8 && Nat.beq t 0 && decide (0 ≤ x.toInt) && decide (x.toInt < sl.length)) with
      | true =>
        simp only [Bool.and_eq_true, decide_eq_true_eq] at hc
        obtain ⟨⟨⟨c1, c2⟩, x0⟩, x1⟩ := hc
        have hi : zi_in x zsl.length = true := yi_in_ok x0 (by rw [← hlen]; exact x1)
        have ht : (Nat.beq p 8 && Nat.beq t 0 && zi_in x zsl.length) = true := by rw [c1, c2, hi]; rfl
        rw [ht]
        simp only [cond_true]
        have hj : x.toInt.toNat < sl.length := by omega
        obtain ⟨w, e1, e2⟩ := zi_F2_get hl (i := x.toInt.toNat) (a := sl[x.toInt.toNat]) (List.getElem?_eq_getElem hj)
        rw [yi_clamp x0, e1]
        refine yi_mk h.1 ⟨?_, h2⟩ h.2.2
        rw [List.getD_eq_getElem?_getD, List.getElem?_eq_getElem hj]
        exact e2
      | false =>
        simp only [cond_false]
        cases hd : (Nat.ble 4 p && Nat.ble (p + 1) 8 && Nat.beq t 2 && decide (0 ≤ x.toInt) && decide (x.toInt < zi_sn.getD (p - 4) 0)) with
        | false => trivial
        | true =>
          simp only [Bool.and_eq_true, decide_eq_true_eq] at hd
          obtain ⟨⟨⟨⟨d1, d2⟩, d3⟩, x0⟩, x1⟩ := hd
          have hp8 : Nat.beq p 8 = false := by
            have := Nat.le_of_ble_eq_true d2
            cases hq : Nat.beq p 8 with
            | false => rfl
            | true => have := Nat.eq_of_beq_eq_true hq; omega
          have hi : zi_in x (zi_sn.getD (p - 4) 0) = true := yi_in_ok x0 x1
          rw [hp8, d1, d2, d3, hi]
          simp only [Bool.false_and, cond_false, Bool.and_true, Bool.and_self, cond_true]
          refine yi_mk h.1 ⟨⟨_, rfl, ?_⟩, h2⟩ h.2.2
          rw [yi_clamp x0]
  · trivial
theorem yi_sok_z {t : Nat} {v : yi_V} {w : zi_V} (ht : t ≤ 3) (hr : yi_vr v w) (hf : yi_fit (zi_ft t) v = true) : zi_sok t w = true := by
  have hz := yi_fit_z hr hf
  rcases (show t = 0 ∨ t = 1 ∨ t = 2 ∨ t = 3 by omega) with z | z | z | z <;> subst z
  · have hk : ∃ x, w = .inl (.int x) := by
      match v, hf with
      | .inl z, _ => obtain ⟨x, e, -⟩ := hr; exact ⟨x, e⟩
    obtain ⟨x, rfl⟩ := hk
    rfl
  · have hk : ∃ x, w = .inl (.long x) := by
      match v, hf with
      | .inr (.inl z), _ => obtain ⟨x, e, -⟩ := hr; exact ⟨x, e⟩
    obtain ⟨x, rfl⟩ := hk
    rfl
  · have hk : ∃ x, w = .inl (.int x) := by
      match v, hf with
      | .inl z, _ => obtain ⟨x, e, -⟩ := hr; exact ⟨x, e⟩
    obtain ⟨x, rfl⟩ := hk
    have hz : (decide (narrow .boolean (.int x) = .int x) && fits .boolean (.int x)) = true := hz
    rw [Bool.and_eq_true] at hz
    exact hz.1
  · have hk : ∃ x, w = .inl (.int x) := by
      match v, hf with
      | .inl z, _ => obtain ⟨x, e, -⟩ := hr; exact ⟨x, e⟩
    obtain ⟨x, rfl⟩ := hk
    have hz : (decide (narrow .char (.int x) = .int x) && fits .char (.int x)) = true := hz
    rw [Bool.and_eq_true] at hz
    exact hz.1
theorem yi_tk_ft {t : Nat} (ht : t ≤ 6) : yi_tk (zi_ft t) = zi_tk t := by
  rcases (show t = 0 ∨ t = 1 ∨ t = 2 ∨ t = 3 ∨ t = 4 ∨ t = 5 ∨ t = 6 by omega) with z | z | z | z | z | z | z <;> subst z <;> rfl
theorem yi_cr_ast {H : yi_H} {p t j : Nat} {d : zi_V} {us : List (Nat × zi_V)} {v : yi_V} {w : zi_V} (h1 : H.2.2.2.1 p = 20 + t) (h2 : t ≤ 6) (h4 : H.2.2.2.2.1 p ≤ 1000000) (h5 : ∀ j, j < H.2.2.2.2.1 p → yi_vr (yi_rd H (zi_tk t) p j) (zi_look d us j)) (hk : yi_vk (zi_tk t) v) (hw : yi_vr v w) : yi_cr (yi_wrt H p j v) p (.inr (t, H.2.2.2.2.1 p, d, (j, w) :: us)) := by
  refine ⟨by rw [yi_wrt_K]; exact h1, h2, by rw [yi_wrt_K], h4, fun j' hj' => ?_⟩
  have e : zi_look d ((j, w) :: us) j' = bif Nat.beq j j' then w else zi_look d us j' := rfl
  rw [e]
  cases hb : Nat.beq j j' with
  | true =>
    have := Nat.eq_of_beq_eq_true hb
    subst this
    rw [yi_rd_eq hk]
    exact hw
  | false =>
    have := Nat.ne_of_beq_eq_false hb
    rw [yi_rd_ne (fun z => this z.2.symm)]
    exact h5 j' hj'
theorem yi_ast_ok (h : yi_B al zal st zst H A) (t : Nat) : yi_or (yi_ast pc n al st H nc ns t) (zi_ast t pc n zal zst A nc ns) := by
  unfold yi_ast
  split
  · rename_i v z p rest
    obtain ⟨w, zr, rfl, hw, h1⟩ := yi_top h.2.1
    obtain ⟨x, zr, rfl, rfl, h2⟩ := yi_top_i h1
    obtain ⟨zr, rfl, h3⟩ := yi_top_r h2
    cases hc : (Nat.ble 10 p && Nat.beq (H.2.2.2.1 p) (20 + t) && Nat.ble t 3 && decide (0 ≤ x.toInt) && decide (x.toInt < H.2.2.2.2.1 p) && yi_fit (zi_ft t) v) with
    | false => trivial
    | true =>
      simp only [Bool.and_eq_true, decide_eq_true_eq] at hc
      obtain ⟨⟨⟨⟨⟨hp, hk⟩, ht⟩, x0⟩, x1⟩, hf⟩ := hc
      have hk := Nat.eq_of_beq_eq_true hk
      have ht := Nat.le_of_ble_eq_true ht
      obtain ⟨hp', t', d, us, e1, e2, e3, e4, e5⟩ := yi_arr_at (p := p) h.2.2 (by omega) (by omega)
      have : t' = t := by omega
      subst this
      unfold zi_ast
      dsimp only
      rw [hp, e3]
      dsimp only [cond_true]
      rw [Nat.beq_refl, yi_in_ok x0 x1, yi_sok_z ht hw hf]
      refine yi_mk h.1 h3 (yi_hr_set h.2.2 hp' ((List.getElem?_eq_some_iff.mp e3).1) ?_)
      rw [yi_clamp x0]
      exact yi_cr_ast e1 e2 e4 e5 (by rw [← yi_tk_ft e2]; exact yi_fit_vk hf) hw
  · trivial
theorem yi_ec4 : decide (some (zi_ft 4) = (zi_Fs[yi_ec 24]?).map (fun z => FieldType.object z.1)) = true := by decide
theorem yi_ec5 : decide (some (zi_ft 5) = (zi_Fs[yi_ec 25]?).map (fun z => FieldType.object z.1)) = true := by decide
theorem yi_ec6 : decide (some (zi_ft 6) = (zi_Fs[yi_ec 26]?).map (fun z => FieldType.object z.1)) = true := by decide
theorem yi_aas_ok (h : yi_B al zal st zst H A) : yi_or (yi_aas pc n al st H nc ns) (zi_aas pc n zal zst A nc ns) := by
  unfold yi_aas
  split
  · rename_i r z p rest
    obtain ⟨w, zr, rfl, hw, h1⟩ := yi_top h.2.1
    obtain ⟨x, zr, rfl, rfl, h2⟩ := yi_top_i h1
    obtain ⟨zr, rfl, h3⟩ := yi_top_r h2
    cases hc : (Nat.ble 10 p && Nat.ble 24 (H.2.2.2.1 p) && Nat.ble (H.2.2.2.1 p) 26 && decide (0 ≤ x.toInt) && decide (x.toInt < H.2.2.2.2.1 p) && yi_nz H (H.2.2.2.1 p) r) with
    | false => trivial
    | true =>
      simp only [Bool.and_eq_true, decide_eq_true_eq] at hc
      obtain ⟨⟨⟨⟨⟨hp, hk⟩, hk2⟩, x0⟩, x1⟩, hr⟩ := hc
      have hk := Nat.le_of_ble_eq_true hk
      have hk2 := Nat.le_of_ble_eq_true hk2
      obtain ⟨hp', t, d, us, e1, e2, e3, e4, e5⟩ := yi_arr_at (p := p) h.2.2 (by omega) (by omega)
      have hso : zi_aso A t w = true := by
        cases r with
        | none =>
          have hw : w = .inl .null := hw
          subst hw
          rfl
        | some q =>
          have hr : (Nat.ble 10 q && Nat.beq (H.2.2.2.1 q) (yi_ec (H.2.2.2.1 p))) = true := hr
          have hw : w = .inl (.ref q) := hw
          subst hw
          rw [Bool.and_eq_true] at hr
          have hq := Nat.eq_of_beq_eq_true hr.2
          have hlt : H.2.2.2.1 q < 20 := by
            rw [hq, e1]
            rcases (show t = 4 ∨ t = 5 ∨ t = 6 by omega) with y | y | y <;> subst y <;> decide
          obtain ⟨hq', fs, q1, q2, q3⟩ := yi_obj_at h.2.2 (ci := H.2.2.2.1 q) rfl hlt
          show (Nat.ble 10 q && (match A[q - 10]? with | some (.inl q) => decide (some (zi_ft t) = (zi_Fs[q.1]?).map (fun z => FieldType.object z.1)) | _ => false)) = true
          rw [q1, hr.1]
          dsimp only
          rw [hq, e1]
          rcases (show t = 4 ∨ t = 5 ∨ t = 6 by omega) with y | y | y
          · subst y; exact yi_ec4
          · subst y; exact yi_ec5
          · subst y; exact yi_ec6
      have hz : zi_aas pc n zal (w :: .inl (.int x) :: .inl (.ref p) :: zr) A nc ns = some (.inl (pc + n, zal, zr, A.set (p - 10) (.inr (t, H.2.2.2.2.1 p, d, (x.toInt.toNat, w) :: us)), nc, ns)) := by
        unfold zi_aas
        dsimp only
        rw [hp, e3]
        dsimp only [cond_true]
        rw [Nat.ble_eq_true_of_le (show 4 ≤ t by omega), Nat.ble_eq_true_of_le e2, yi_in_ok x0 x1, hso]
        rfl
      rw [hz]
      have hset : yi_hr (yi_wrt H p x.toInt.toNat (.inr (.inr r))) (A.set (p - 10) (.inr (t, H.2.2.2.2.1 p, d, (x.toInt.toNat, w) :: us))) := by
        refine yi_hr_set h.2.2 hp' ((List.getElem?_eq_some_iff.mp e3).1) (yi_cr_ast e1 e2 e4 e5 ?_ hw)
        rcases (show t = 4 ∨ t = 5 ∨ t = 6 by omega) with y | y | y <;> subst y <;> trivial
      exact yi_mk h.1 h3 hset
  · trivial
theorem yi_dfv_ok (ty : FieldType) : yi_vr (match yi_tk ty with | 0 => (Sum.inl 0 : yi_V) | 1 => Sum.inr (Sum.inl 0) | _ => Sum.inr (Sum.inr none)) (zi_dfv ty) := by
  cases ty <;> first | exact ⟨0, rfl, rfl⟩ | rfl
theorem yi_nwo_ok (h : yi_B al zal st zst H A) (ci : Nat) : yi_or (yi_nwo pc n al st H nc ns ci) (zi_nw pc n zal zst A nc ns ci) := by
  unfold yi_nwo
  cases hc : Nat.ble (ci + 1) 12 with
  | false => trivial
  | true =>
    have hci := Nat.le_of_ble_eq_true hc
    have hsz : H.2.2.2.2.2 = 10 + A.length := by have := h.2.2.1; omega
    refine yi_mk h.1 ⟨?_, h.2.1⟩ (yi_hr_nw h.2.2 ?_)
    · show (.inl (.ref (10 + A.length)) : zi_V) = .inl (.ref H.2.2.2.2.2)
      rw [hsz]
    · refine ⟨yi_nw_K0 H ci 0, by omega, by unfold zi_new; rw [List.length_map], fun k v hv => ?_⟩
      rw [yi_nw_rd]
      unfold zi_new at hv
      rw [List.getElem?_map] at hv
      cases hq : (zi_Fs.getD ci ("", [])).2[k]? with
      | none => rw [hq] at hv; cases hv
      | some q =>
        rw [hq] at hv
        have e : zi_dfv q.2 = v := Option.some.inj hv
        have e2 : zi_ty ci k = q.2 := by
          unfold zi_ty
          rw [List.getD_eq_getElem?_getD, hq]
          rfl
        rw [← e, e2]
        exact yi_dfv_ok q.2
theorem yi_nwa_ok (h : yi_B al zal st zst H A) (t : Nat) : yi_or (yi_nwa pc n al st H nc ns t) (zi_nwa pc n zal zst A nc ns t) := by
  unfold yi_nwa
  split
  · rename_i z r
    obtain ⟨x, zr, rfl, rfl, h2⟩ := yi_top_i h.2.1
    cases hc : (decide (0 ≤ x.toInt) && decide (x.toInt ≤ 1000000) && Nat.ble t 6) with
    | false => trivial
    | true =>
      simp only [Bool.and_eq_true, decide_eq_true_eq] at hc
      obtain ⟨⟨x0, x1⟩, ht⟩ := hc
      have ht' := Nat.le_of_ble_eq_true ht
      have hsz : H.2.2.2.2.2 = 10 + A.length := by have := h.2.2.1; omega
      have e1 : decide (x < 0) = false := decide_eq_false (fun z => by
        rw [zi_ilt] at z
        have : (0 : Int32).toInt = 0 := rfl
        omega)
      have e2 : Nat.ble x.toNatClampNeg 1000000 = true := Nat.ble_eq_true_of_le (by rw [yi_clamp x0]; omega)
      unfold zi_nwa
      dsimp only
      rw [e1, e2, ht]
      have hcr : yi_hr (yi_nw H (20 + t) x.toInt.toNat) (A ++ [.inr (t, x.toInt.toNat, zi_df t, [])]) := by
        refine yi_hr_nw h.2.2 ⟨yi_nw_K0 H _ _, ht', yi_nw_N0 H _ _, by omega, fun j hj => ?_⟩
        rw [yi_nw_rd]
        show yi_vr _ (zi_df t)
        rcases (show t = 0 ∨ t = 1 ∨ t = 2 ∨ t = 3 ∨ t = 4 ∨ t = 5 ∨ t = 6 by omega) with z | z | z | z | z | z | z <;> subst z <;> first | exact ⟨0, rfl, rfl⟩ | rfl
      have hv : yi_vr (.inr (.inr (some H.2.2.2.2.2))) (.inl (.ref (10 + A.length))) := by
        rw [hsz]
        rfl
      exact yi_mk h.1 ⟨hv, h2⟩ hcr
  · trivial
theorem yi_mm_ok (h : yi_B al zal st zst H A) (z : Nat) : yi_or (yi_mm pc n al st H nc ns z) (zi_mm z pc n zal zst A nc ns) := by
  unfold yi_mm
  split
  · obtain ⟨y, zr, rfl, rfl, h2⟩ := yi_top_i h.2.1
    obtain ⟨x, zr, rfl, rfl, h3⟩ := yi_top_i h2
    refine yi_mk h.1 ⟨⟨_, rfl, ?_⟩, h3⟩ h.2.2
    match z with
    | 0 =>
      show (if x < y then y else x).toInt = if x.toInt < y.toInt then y.toInt else x.toInt
      by_cases c : x < y
      · rw [if_pos c, if_pos ((zi_ilt _ _).mp c)]
      · rw [if_neg c, if_neg (fun q => c ((zi_ilt _ _).mpr q))]
    | z + 1 =>
      show (if y < x then y else x).toInt = if y.toInt < x.toInt then y.toInt else x.toInt
      by_cases c : y < x
      · rw [if_pos c, if_pos ((zi_ilt _ _).mp c)]
      · rw [if_neg c, if_neg (fun q => c ((zi_ilt _ _).mpr q))]
  · trivial
theorem yi_obj_ok (h : yi_B al zal st zst H A) : yi_or (yi_obj pc n al st H nc ns) (zi_obj pc n zal zst A nc ns) := by
  unfold yi_obj
  split
  · rename_i p r
    obtain ⟨zr, rfl, h2⟩ := yi_top_r h.2.1
    unfold zi_obj
    dsimp only
    rw [yi_cats_ok h2]
    cases Nat.ble (yi_cats r) 8 with
    | true => exact yi_mk h.1 h2 h.2.2
    | false => trivial
  · trivial
theorem yi_inv_ok (h : yi_B al zal st zst H A) {yc : yi_K} {zc : zi_K} (hc : yi_cs yc zc) (mi k : Nat) : yi_or (yi_inv pc n al st H nc ns yc mi k) (zi_inv zc pc n zal zst A nc ns mi k) := by
  unfold yi_inv zi_inv
  rw [← zi_F2_len h.2.1, yi_cats_ok (zi_F2_drop h.2.1 k)]
  cases (Nat.ble k st.length && Nat.ble (yi_cats (st.drop k)) 8) with
  | false => trivial
  | true =>
    simp only [cond_true]
    cases hr : yc mi (st.take k).reverse H with
    | none => trivial
    | some r =>
      obtain ⟨zr, e1, e2, e3, e4, e5⟩ := hc mi _ H r hr _ A (zi_F2_rev (zi_F2_take h.2.1 k)) h.2.2
      rw [e1]
      dsimp only
      rw [← e4, ← e5]
      cases hv : r.1 with
      | none =>
        cases hw : zr.1 with
        | none => exact yi_mk h.1 (zi_F2_drop h.2.1 k) e3
        | some w => rw [hv, hw] at e2; exact e2.elim
      | some v =>
        cases hw : zr.1 with
        | none => rw [hv, hw] at e2; exact e2.elim
        | some w =>
          rw [hv, hw] at e2
          exact yi_mk h.1 ⟨e2, zi_F2_drop h.2.1 k⟩ e3
theorem yi_ret_ok (h : zi_F2 yi_vr st zst) (k : Nat) (ret : Option FieldType) : yi_or (yi_ret k ret st) (zi_ret k ret zst) := by
  unfold yi_ret
  split
  · rename_i ty v
    obtain ⟨w, zr, rfl, hw, h2⟩ := yi_top h
    have e := zi_F2_nil h2
    subst e
    cases hc : (yi_fit ty v && (match k with | 0 => Nat.beq (yi_kd v) 0 | 1 => Nat.beq (yi_kd v) 1 | _ => Nat.ble 2 (yi_kd v))) with
    | false => trivial
    | true =>
      rw [Bool.and_eq_true] at hc
      have hz := yi_fit_z hw hc.1
      have h1 : zi_rok ty w = true := by
        match v, hw, hc.1 with
        | .inl z, hw, _ =>
          obtain ⟨x, rfl, -⟩ := hw
          have hz : (decide (narrow ty (.int x) = .int x) && fits ty (.int x)) = true := hz
          rw [Bool.and_eq_true] at hz
          exact hz.1
        | .inr (.inl z), hw, hf =>
          obtain ⟨x, rfl, -⟩ := hw
          cases ty <;> first | rfl | (cases hf; done)
        | .inr (.inr none), hw, hf =>
          have hw : w = .inl .null := hw
          subst hw
          cases ty <;> first | rfl | (cases hf; done)
        | .inr (.inr (some q)), hw, hf =>
          have hw : w = .inl (.ref q) := hw
          subst hw
          cases ty <;> first | rfl | (cases hf; done)
      have h2 : zi_rk k w = true := by
        have hk := hc.2
        unfold zi_rk
        rw [yi_vr_kd hw]
        exact hk
      unfold zi_ret
      dsimp only
      rw [h1, h2]
      exact ⟨_, rfl, hw⟩
  · trivial
theorem yi_rtv_ok (h : zi_F2 yi_vr st zst) (ret : Option FieldType) : yi_or (yi_rtv ret st) (zi_rtv ret zst) := by
  unfold yi_rtv
  split
  · have e := zi_F2_nil h
    subst e
    exact ⟨_, rfl, trivial⟩
  · trivial
theorem yi_rcv_ok (hH : yi_hr H A) {ci : Nat} {v : Option yi_V} {w : Option zi_V} (hv : ∀ a, v = some a → ∃ b, w = some b ∧ yi_vr a b) (h : yi_rcv H ci v = true) : zi_rcv A ci w = true := by
  unfold yi_rcv at h
  split at h
  · rename_i p
    obtain ⟨b, rfl, hb⟩ := hv _ rfl
    have hb : b = .inl (.ref p) := hb
    subst hb
    unfold zi_rcv
    dsimp only
    cases hp : Nat.ble 10 p with
    | true =>
      rw [hp] at h
      have h : (Nat.beq (H.2.2.2.1 p) ci && Nat.ble (ci + 1) 20) = true := h
      rw [Bool.and_eq_true] at h
      have c1 := Nat.eq_of_beq_eq_true h.1
      have c2 := Nat.le_of_ble_eq_true h.2
      obtain ⟨-, fs, e1, -, -⟩ := yi_obj_at hH c1 (by omega)
      rw [e1]
      simp only [cond_true]
      exact Nat.beq_refl ci
    | false =>
      rw [hp] at h
      exact h
  · cases h
end YS
