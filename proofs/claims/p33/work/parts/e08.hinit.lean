/-! The state behind the constructors, as the second interpreter has it. -/
noncomputable def hz_v (A : List zi_C) (p k : Nat) : zi_V := match A[p - 10]? with
  | some (.inl q) => q.2.getD k (.inl .null)
  | some (.inr q) => zi_look q.2.2.1 q.2.2.2 k
  | none => .inl .null
def hz_i (v : zi_V) : Int := match v with
  | .inl (.int x) => x.toInt
  | _ => 0
def hz_l (v : zi_V) : Int := match v with
  | .inl (.long x) => x.toInt
  | _ => 0
def hz_r (v : zi_V) : Option Nat := match v with
  | .inl (.ref p) => some p
  | _ => none
def hz_k (A : List zi_C) (p : Nat) : Nat := bif Nat.ble 10 p then (match A[p - 10]? with
  | some (.inl q) => q.1
  | some (.inr q) => 20 + q.1
  | none => 99) else 99
def hz_n (A : List zi_C) (p : Nat) : Nat := match A[p - 10]? with
  | some (.inr q) => q.2.1
  | _ => 0
noncomputable def hz (A : List zi_C) : yi_H := (fun p k => hz_i (hz_v A p k), fun p k => hz_l (hz_v A p k), fun p k => hz_r (hz_v A p k), hz_k A, hz_n A, A.length + 10)
def hz_ok (t : Nat) (v : zi_V) : Bool := match v with
  | .inl (.int _) => Nat.beq t 0
  | .inl (.long _) => Nat.beq t 1
  | .inl (.ref _) => Nat.beq t 2
  | .inl .null => Nat.beq t 2
  | _ => false
theorem hz_rd {A : List zi_C} {p k t : Nat} (h : hz_ok t (hz_v A p k) = true) : yi_vr (yi_rd (hz A) t p k) (hz_v A p k) := by
  have e0 : yi_rd (hz A) 0 p k = .inl (hz_i (hz_v A p k)) := rfl
  have e1 : yi_rd (hz A) 1 p k = .inr (.inl (hz_l (hz_v A p k))) := rfl
  have e2 : yi_rd (hz A) 2 p k = .inr (.inr (hz_r (hz_v A p k))) := rfl
  generalize hz_v A p k = v at h e0 e1 e2 ⊢
  unfold hz_ok at h
  split at h
  · rename_i x
    rw [Nat.eq_of_beq_eq_true h, e0]
    exact ⟨x, rfl, rfl⟩
  · rename_i x
    rw [Nat.eq_of_beq_eq_true h, e1]
    exact ⟨x, rfl, rfl⟩
  · rw [Nat.eq_of_beq_eq_true h, e2]
    rfl
  · rw [Nat.eq_of_beq_eq_true h, e2]
    rfl
  · cases h
theorem hz_look {t : Nat} {d : zi_V} (hd : hz_ok t d = true) : ∀ {us : List (Nat × zi_V)}, us.all (fun u => hz_ok t u.2) = true → ∀ j : Nat, hz_ok t (zi_look d us j) = true
  | [], _, _ => hd
  | q :: us, h, j => by
    rw [List.all_cons, Bool.and_eq_true] at h
    have e : zi_look d (q :: us) j = bif Nat.beq q.1 j then q.2 else zi_look d us j := rfl
    rw [e]
    cases Nat.beq q.1 j with
    | true => exact h.1
    | false => exact hz_look hd h.2 j
def hz_ck (c : zi_C) : Bool := match c with
  | .inl q => Nat.ble (q.1 + 1) 20 && Nat.beq q.2.length (zi_Fs.getD q.1 ("", [])).2.length && (List.range q.2.length).all (fun k => hz_ok (yi_tk (zi_ty q.1 k)) (q.2.getD k (.inl .null)))
  | .inr q => Nat.ble q.1 6 && Nat.ble q.2.1 1000000 && hz_ok (zi_tk q.1) q.2.2.1 && q.2.2.2.all (fun u => hz_ok (zi_tk q.1) u.2)
theorem hz_hr {A : List zi_C} (h : A.all hz_ck = true) : yi_hr (hz A) A := by
  refine ⟨rfl, fun p hp => ?_⟩
  have hp : hz_k A p < 50 := hp
  cases h10 : Nat.ble 10 p with
  | false =>
    unfold hz_k at hp
    rw [h10] at hp
    have hp : (99 : Nat) < 50 := hp
    omega
  | true =>
    cases hc : A[p - 10]? with
    | none =>
      unfold hz_k at hp
      rw [h10, hc] at hp
      have hp : (99 : Nat) < 50 := hp
      omega
    | some c =>
      have hk := List.all_eq_true.mp h c (List.mem_of_getElem? hc)
      refine ⟨Nat.le_of_ble_eq_true h10, c, rfl, ?_⟩
      cases c with
      | inl q =>
        have hk : (Nat.ble (q.1 + 1) 20 && Nat.beq q.2.length (zi_Fs.getD q.1 ("", [])).2.length && (List.range q.2.length).all (fun k => hz_ok (yi_tk (zi_ty q.1 k)) (q.2.getD k (.inl .null)))) = true := hk
        simp only [Bool.and_eq_true] at hk
        have ev : ∀ k, hz_v A p k = q.2.getD k (.inl .null) := fun k => by
          unfold hz_v
          rw [hc]
        refine ⟨?_, Nat.le_of_ble_eq_true hk.1.1, Nat.eq_of_beq_eq_true hk.1.2, fun k v hv => ?_⟩
        · show hz_k A p = q.1
          unfold hz_k
          rw [h10, hc]
          rfl
        · have hlt : k < q.2.length := (List.getElem?_eq_some_iff.mp hv).1
          have z := List.all_eq_true.mp hk.2 k (List.mem_range.mpr hlt)
          have e2 : q.2.getD k (.inl .null) = v := by
            rw [List.getD_eq_getElem?_getD, hv]
            rfl
          have r := hz_rd (A := A) (p := p) (k := k) (t := yi_tk (zi_ty q.1 k)) (by rw [ev]; exact z)
          rw [ev, e2] at r
          exact r
      | inr q =>
        have hk : (Nat.ble q.1 6 && Nat.ble q.2.1 1000000 && hz_ok (zi_tk q.1) q.2.2.1 && q.2.2.2.all (fun u => hz_ok (zi_tk q.1) u.2)) = true := hk
        simp only [Bool.and_eq_true] at hk
        have ev : ∀ k, hz_v A p k = zi_look q.2.2.1 q.2.2.2 k := fun k => by
          unfold hz_v
          rw [hc]
        refine ⟨?_, Nat.le_of_ble_eq_true hk.1.1.1, ?_, Nat.le_of_ble_eq_true hk.1.1.2, fun j _ => ?_⟩
        · show hz_k A p = 20 + q.1
          unfold hz_k
          rw [h10, hc]
          rfl
        · show hz_n A p = q.2.1
          unfold hz_n
          rw [hc]
        · have r := hz_rd (A := A) (p := p) (k := j) (t := zi_tk q.1) (by rw [ev]; exact hz_look hk.1.2 hk.2 j)
          rw [ev] at r
          exact r
theorem hz_A0 : yi_hr (hz zi_A0) zi_A0 := hz_hr (by decide +kernel)
theorem cl_b_k {t k : Nat} {b : Int × Int} (h : cl_b t k = some b) (ht : t ≠ 23) : k < 24 := by
  unfold cl_b at h
  split at h <;> first | exact absurd rfl ht | (split at h <;> first | omega | cases h) | cases h
theorem cl_r_k {t k : Nat} {q : Nat × Nat × Bool} (h : cl_r t k = some q) (ht : ¬ (24 ≤ t ∧ t ≤ 26)) : k < 24 := by
  unfold cl_r at h
  split at h <;> first | (exfalso; omega) | (split at h <;> first | omega | cases h) | cases h
noncomputable def hz_c1 (p k : Nat) : Bool := match cl_b (hz_k zi_A0 p) k with
  | some b => Nat.beq (hz_k zi_A0 p) 23 || (Nat.ble 82 p && Nat.ble p 108) || (decide (b.1 ≤ hz_i (hz_v zi_A0 p k)) && decide (hz_i (hz_v zi_A0 p k) ≤ b.2))
  | none => true
noncomputable def hz_c2 (p k : Nat) : Bool := match cl_r (hz_k zi_A0 p) k with
  | some q => (Nat.ble 24 (hz_k zi_A0 p) && Nat.ble (hz_k zi_A0 p) 26) || (Nat.ble 82 p && Nat.ble p 108) || (match hz_r (hz_v zi_A0 p k) with
    | none => q.2.2
    | some d => Nat.ble 10 d && Nat.ble (d + 1) 110 && (Nat.ble (d + 1) 82 || Nat.ble 109 d) && Nat.beq (hz_k zi_A0 d) q.1 && (Nat.beq q.2.1 0 || Nat.beq (hz_n zi_A0 d) q.2.1))
  | none => true
theorem hz_c1_all : (List.range 110).all (fun p => (List.range 24).all (fun k => hz_c1 p k)) = true := by decide +kernel
theorem hz_c2_all : (List.range 110).all (fun p => (List.range 24).all (fun k => hz_c2 p k)) = true := by decide +kernel
theorem hz_k_all : (List.range 110).all (fun p => (!Nat.beq (hz_k zi_A0 p) 23 || Nat.beq p 13) && (!Nat.beq (hz_k zi_A0 p) 24 || (Nat.beq p 39 || Nat.beq p 40 || Nat.beq p 47)) && (!Nat.beq (hz_k zi_A0 p) 25 || (Nat.beq p 56 || Nat.beq p 57)) && (!Nat.beq (hz_k zi_A0 p) 26 || Nat.beq p 51) && Nat.ble (hz_n zi_A0 p) 1000000 && (!Nat.beq (hz_k zi_A0 p) 8 || Nat.beq p 49)) = true := by decide +kernel
theorem hz_len : zi_A0.length + 10 = 110 := by decide +kernel
theorem hz_cC : cl_C [] (hz zi_A0).1 (hz zi_A0).2.1 (hz zi_A0).2.2.1 (hz zi_A0).2.2.2 := by
  have hka : ∀ p, p < 110 → _ := fun p hp => List.all_eq_true.mp hz_k_all p (List.mem_range.mpr hp)
  simp only [Bool.and_eq_true, Bool.or_eq_true, Bool.not_eq_true'] at hka
  have hlt : ∀ {p t}, cl_T [] (hz zi_A0).2.2.2 p t → p < 110 ∧ hz_k zi_A0 p = t := fun {p t} h => ⟨by have := h.2.1; rw [show (hz zi_A0).2.2.2.2.2 = 110 from hz_len] at this; exact this, h.2.2.2.2⟩
  have nb : ∀ {a b : Nat}, Nat.beq a b = false → a ≠ b := fun h => Nat.ne_of_beq_eq_false h
  refine ⟨fun p t ht k b hb => ?_, fun p t ht k q hq => ?_, ⟨by rw [show (hz zi_A0).2.2.2.2.2 = 110 from hz_len]; omega, fun p hp => ?_⟩, ⟨by decide +kernel, by decide +kernel, by decide +kernel, by decide +kernel, by decide +kernel, by decide +kernel, by decide +kernel, by decide +kernel, by decide +kernel, by decide +kernel⟩, fun e he => absurd he (by simp), fun p ht => ?_⟩
  · obtain ⟨h1, h2⟩ := hlt ht
    by_cases h23 : t = 23
    · have z := (hka p h1).1.1.1.1.1
      rcases z with z | z
      · exact absurd (h2.trans h23) (nb z)
      · have e := Nat.eq_of_beq_eq_true z
        subst e
        subst h23
        have hb : some ((0 : Int), (65535 : Int)) = some b := hb
        cases hb
        have e : (hz zi_A0).1 13 k = 0 := rfl
        rw [e]
        decide
    · have hk := cl_b_k hb h23
      have z := List.all_eq_true.mp (List.all_eq_true.mp hz_c1_all p (List.mem_range.mpr h1)) k (List.mem_range.mpr hk)
      unfold hz_c1 at z
      rw [h2, hb] at z
      simp only [Bool.or_eq_true, Bool.and_eq_true, decide_eq_true_eq] at z
      have := ht.2.2.1
      rcases z with (z | z) | z
      · exact absurd (Nat.eq_of_beq_eq_true z) h23
      · have a := Nat.le_of_ble_eq_true z.1
        have b := Nat.le_of_ble_eq_true z.2
        omega
      · exact z
  · obtain ⟨h1, h2⟩ := hlt ht
    by_cases h24 : 24 ≤ t ∧ t ≤ 26
    · have e : (hz zi_A0).2.2.1 p k = none := by
        have z := hka p h1
        rw [h2] at z
        rcases (show t = 24 ∨ t = 25 ∨ t = 26 by omega) with y | y | y
        · subst y
          rcases z.1.1.1.1.2 with x | x
          · exact absurd rfl (nb x)
          · rcases x with (x | x) | x <;> (have e := Nat.eq_of_beq_eq_true x; subst e; rfl)
        · subst y
          rcases z.1.1.1.2 with x | x
          · exact absurd rfl (nb x)
          · rcases x with x | x <;> (have e := Nat.eq_of_beq_eq_true x; subst e; rfl)
        · subst y
          rcases z.1.1.2 with x | x
          · exact absurd rfl (nb x)
          · have e := Nat.eq_of_beq_eq_true x
            subst e
            rfl
      rw [e]
      refine Or.inl ⟨rfl, ?_⟩
      rcases (show t = 24 ∨ t = 25 ∨ t = 26 by omega) with y | y | y
      · subst y
        have hq : some ((5 : Nat), (0 : Nat), true) = some q := hq
        cases hq
        rfl
      · subst y
        have hq : some ((9 : Nat), (0 : Nat), true) = some q := hq
        cases hq
        rfl
      · subst y
        have hq : some ((10 : Nat), (0 : Nat), true) = some q := hq
        cases hq
        rfl
    · have hk := cl_r_k hq h24
      have z := List.all_eq_true.mp (List.all_eq_true.mp hz_c2_all p (List.mem_range.mpr h1)) k (List.mem_range.mpr hk)
      unfold hz_c2 at z
      rw [h2, hq] at z
      simp only [Bool.or_eq_true, Bool.and_eq_true] at z
      have h3 := ht.2.2.1
      rcases z with (z | z) | z
      · exact absurd ⟨Nat.le_of_ble_eq_true z.1, Nat.le_of_ble_eq_true z.2⟩ h24
      · have a := Nat.le_of_ble_eq_true z.1
        have b := Nat.le_of_ble_eq_true z.2
        omega
      · show cl_ref [] (hz zi_A0).2.2.2 q (hz_r (hz_v zi_A0 p k))
        cases hr : hz_r (hz_v zi_A0 p k) with
        | none =>
          rw [hr] at z
          exact Or.inl ⟨rfl, z⟩
        | some d =>
          rw [hr] at z
          simp only [Bool.or_eq_true, Bool.and_eq_true] at z
          obtain ⟨⟨⟨⟨z1, z2⟩, z3⟩, z4⟩, z5⟩ := z
          have y1 := Nat.le_of_ble_eq_true z1
          have y2 := Nat.le_of_ble_eq_true z2
          refine Or.inr ⟨d, rfl, ⟨y1, ?_, ?_, fun h => absurd h (by simp), Nat.eq_of_beq_eq_true z4⟩, z5.imp (fun h => Nat.eq_of_beq_eq_true h) (fun h => Nat.eq_of_beq_eq_true h)⟩
          · rw [show (hz zi_A0).2.2.2.2.2 = 110 from hz_len]
            omega
          · rcases z3 with z | z
            · have := Nat.le_of_ble_eq_true z
              omega
            · have := Nat.le_of_ble_eq_true z
              omega
  · have hp : p < 110 := by rw [show (hz zi_A0).2.2.2.2.2 = 110 from hz_len] at hp; exact hp
    exact Nat.le_of_ble_eq_true (hka p hp).1.2
  · obtain ⟨h1, h2⟩ := hlt ht
    rcases (hka p h1).2 with z | z
    · exact absurd h2 (nb z)
    · have e := Nat.eq_of_beq_eq_true z
      subst e
      have e : (hz zi_A0).2.1 49 0 = 0 := by decide +kernel
      rw [e]
      decide
theorem hz_S : ym_S ((hz zi_A0).2.2.1, (hz zi_A0).2.2.2) := ⟨by decide +kernel, by decide +kernel⟩
theorem hz_s3 : ∀ s : Nat, s < 12 → (hz zi_A0).1 100 (8 + 3 * s) = 0 := by decide +kernel
theorem hz_s4 : ∀ k : Nat, k < 24 → (hz zi_A0).1 100 (44 + k) = -1 := by decide +kernel
theorem hz_s5 : ∀ m : Nat, m < 5 → (hz zi_A0).1 101 m = 0 ∧ (hz zi_A0).1 102 m = 0 := by decide +kernel
theorem hz_IV : ym_IV (hz zi_A0).1 := by
  have a0 : (hz zi_A0).1 88 0 = 1 := by decide +kernel
  have a1 : (hz zi_A0).1 88 1 = 0 := by decide +kernel
  have a2 : (hz zi_A0).1 88 2 = 0 := by decide +kernel
  have a3 : (hz zi_A0).1 88 3 = 0 := by decide +kernel
  have a4 : (hz zi_A0).1 88 4 = 0 := by decide +kernel
  have a5 : (hz zi_A0).1 88 5 = 0 := by decide +kernel
  have a6 : (hz zi_A0).1 88 6 = -1 := by decide +kernel
  have b0 : (hz zi_A0).1 100 0 = 0 := by decide +kernel
  have b1 : (hz zi_A0).1 100 1 = 1 := by decide +kernel
  have b2 : (hz zi_A0).1 100 2 = 0 := by decide +kernel
  have c24 : (hz zi_A0).1 82 24 = 1 := by decide +kernel
  have c25 : (hz zi_A0).1 82 25 = 1 := by decide +kernel
  have c18 : (hz zi_A0).1 82 18 = 0 := by decide +kernel
  have c19 : (hz zi_A0).1 82 19 = 0 := by decide +kernel
  have c2 : (hz zi_A0).1 82 2 = 0 := by decide +kernel
  have c30 : (hz zi_A0).1 82 30 = 0 := by decide +kernel
  have fo : 1 ≤ ym_fo 1 0 0 := by decide +kernel
  have s3 := hz_s3
  have s4 := hz_s4
  have s5 := hz_s5
  generalize (hz zi_A0).1 = I at *
  refine ⟨⟨by omega, by omega, by omega, by omega, by omega, by omega⟩, ⟨fun k a b => absurd b (by omega), fun w a b => absurd b (by omega), Or.inl (by omega)⟩, fun k a b c => absurd b (by rw [a0, a1]; omega), ym_ST_0 ⟨by omega, by omega, by omega, fun s a b => ?_, fun k a b => ?_⟩ c30 (fun m a b => ?_), by omega, by omega, by omega, by omega, by omega, by rw [a0, a1, a2]; exact fo⟩
  · rw [show (8 + 3 * s).toNat = 8 + 3 * s.toNat by omega, s3 _ (by omega)]
    omega
  · rw [show (44 + k).toNat = 44 + k.toNat by omega, s4 _ (by omega)]
    omega
  · exact s5 m.toNat (by omega)
theorem hz_J : lw_J 0 (hz zi_A0).1 (hz zi_A0).2.1 (hz zi_A0).2.2.1 (hz zi_A0).2.2.2 100 177797 := by
  have e5 : (hz zi_A0).1 12 5 = 0 := by decide +kernel
  have e2 : (hz zi_A0).1 82 2 = 0 := by decide +kernel
  exact ⟨hz_cC, hz_S, hz_IV, by rw [e5, e2], ⟨by decide +kernel, by decide +kernel⟩, ⟨by omega, fun h => absurd e5 h⟩, ⟨by omega, fun h => absurd e5 h⟩⟩
