/-! The state behind the constructors, as the second interpreter has it. -/
noncomputable def hz_v (A : List zi_C) (p k : Nat) : zi_V := match A[p - 10]? with
  | some (.inl q) => q.2.getD k (.inl .null)
  | some (.inr q) => zi_look q.2.2.1 q.2.2.2 k
  | none => .inl .null
def hz_i (v : zi_V) : Int := match v with
  | .inl (.int x) => x.toInt
  | _ => 0
def hz_l (v : zi_V) : Int := match v with
  | .inl (.long x) => x.toInt
  | _ => 0
def hz_r (v : zi_V) : Option Nat := match v with
  | .inl (.ref p) => some p
  | _ => none
def hz_k (A : List zi_C) (p : Nat) : Nat := bif Nat.ble 10 p then (match A[p - 10]? with
  | some (.inl q) => q.1
  | some (.inr q) => 20 + q.1
  | none => 99) else 99
def hz_n (A : List zi_C) (p : Nat) : Nat := match A[p - 10]? with
  | some (.inr q) => q.2.1
  | _ => 0
noncomputable def hz (A : List zi_C) : yi_H := (fun p k => hz_i (hz_v A p k), fun p k => hz_l (hz_v A p k), fun p k => hz_r (hz_v A p k), hz_k A, hz_n A, A.length + 10)
def hz_ok (t : Nat) (v : zi_V) : Bool := match v with
  | .inl (.int _) => Nat.beq t 0
  | .inl (.long _) => Nat.beq t 1
  | .inl (.ref _) => Nat.beq t 2
  | .inl .null => Nat.beq t 2
  | _ => false
theorem hz_rd {A : List zi_C} {p k t : Nat} (h : hz_ok t (hz_v A p k) = true) : yi_vr (yi_rd (hz A) t p k) (hz_v A p k) := by
  have e0 : yi_rd (hz A) 0 p k = .inl (hz_i (hz_v A p k)) := rfl
  have e1 : yi_rd (hz A) 1 p k = .inr (.inl (hz_l (hz_v A p k))) := rfl
  have e2 : yi_rd (hz A) 2 p k = .inr (.inr (hz_r (hz_v A p k))) := rfl
  generalize hz_v A p k = v at h e0 e1 e2 ⊢
  unfold hz_ok at h
  split at h
  · rename_i x
    rw [Nat.eq_of_beq_eq_true h, e0]
    exact ⟨x, rfl, rfl⟩
  · rename_i x
    rw [Nat.eq_of_beq_eq_true h, e1]
    exact ⟨x, rfl, rfl⟩
  · rw [Nat.eq_of_beq_eq_true h, e2]
    rfl
  · rw [Nat.eq_of_beq_eq_true h, e2]
    rfl
  · cases h
theorem hz_look {t : Nat} {d : zi_V} (hd : hz_ok t d = true) : ∀ {us : List (Nat × zi_V)}, us.all (fun u => hz_ok t u.2) = true → ∀ j : Nat, hz_ok t (zi_look d us j) = true
  | [], _, _ => hd
  | q :: us, h, j => by
    rw [List.all_cons, Bool.and_eq_true] at h
    have e : zi_look d (q :: us) j = bif Nat.beq q.1 j then q.2 else zi_look d us j := rfl
    rw [e]
    cases Nat.beq q.1 j with
    | true => exact h.1
    | false => exact hz_look hd h.2 j
def hz_ck (c : zi_C) : Bool := match c with
  | .inl q => Nat.ble (q.1 + 1) 20 && Nat.beq q.2.length (zi_Fs.getD q.1 ("", [])).2.length && (List.range q.2.length).all (fun k => hz_ok (yi_tk (zi_ty q.1 k)) (q.2.getD k (.inl .null)))
  | .inr q => Nat.ble q.1 6 && Nat.ble q.2.1 1000000 && hz_ok (zi_tk q.1) q.2.2.1 && q.2.2.2.all (fun u => hz_ok (zi_tk q.1) u.2)
theorem hz_hr {A : List zi_C} (h : A.all hz_ck = true) : yi_hr (hz A) A := by
  refine ⟨rfl, fun p hp => ?_⟩
  have hp : hz_k A p < 50 := hp
  cases h10 : Nat.ble 10 p with
  | false =>
    unfold hz_k at hp
    rw [h10] at hp
    exact absurd hp (by decide)
  | true =>
    cases hc : A[p - 10]? with
    | none =>
      unfold hz_k at hp
      rw [h10, hc] at hp
      exact absurd hp (by decide)
    | some c =>
      have hk := List.all_eq_true.mp h c (List.mem_of_getElem? hc)
      refine ⟨Nat.le_of_ble_eq_true h10, c, rfl, ?_⟩
      cases c with
      | inl q =>
        have hk : (Nat.ble (q.1 + 1) 20 && Nat.beq q.2.length (zi_Fs.getD q.1 ("", [])).2.length && (List.range q.2.length).all (fun k => hz_ok (yi_tk (zi_ty q.1 k)) (q.2.getD k (.inl .null)))) = true := hk
        simp only [Bool.and_eq_true] at hk
        have ev : ∀ k, hz_v A p k = q.2.getD k (.inl .null) := fun k => by
          unfold hz_v
          rw [hc]
        refine ⟨?_, Nat.le_of_ble_eq_true hk.1.1, Nat.eq_of_beq_eq_true hk.1.2, fun k v hv => ?_⟩
        · show hz_k A p = q.1
          unfold hz_k
          rw [h10, hc]
          rfl
        · have hlt : k < q.2.length := (List.getElem?_eq_some_iff.mp hv).1
          have z := List.all_eq_true.mp hk.2 k (List.mem_range.mpr hlt)
          have e2 : q.2.getD k (.inl .null) = v := by
            rw [List.getD_eq_getElem?_getD, hv]
            rfl
          have r := hz_rd (A := A) (p := p) (k := k) (t := yi_tk (zi_ty q.1 k)) (by rw [ev]; exact z)
          rw [ev, e2] at r
          exact r
      | inr q =>
        have hk : (Nat.ble q.1 6 && Nat.ble q.2.1 1000000 && hz_ok (zi_tk q.1) q.2.2.1 && q.2.2.2.all (fun u => hz_ok (zi_tk q.1) u.2)) = true := hk
        simp only [Bool.and_eq_true] at hk
        have ev : ∀ k, hz_v A p k = zi_look q.2.2.1 q.2.2.2 k := fun k => by
          unfold hz_v
          rw [hc]
        refine ⟨?_, Nat.le_of_ble_eq_true hk.1.1.1, ?_, Nat.le_of_ble_eq_true hk.1.1.2, fun j _ => ?_⟩
        · show hz_k A p = 20 + q.1
          unfold hz_k
          rw [h10, hc]
          rfl
        · show hz_n A p = q.2.1
          unfold hz_n
          rw [hc]
        · have r := hz_rd (A := A) (p := p) (k := j) (t := zi_tk q.1) (by rw [ev]; exact hz_look hk.1.2 hk.2 j)
          rw [ev] at r
          exact r
theorem hz_A0 : yi_hr (hz zi_A0) zi_A0 := hz_hr (by decide +kernel)
theorem cl_b_k {t k : Nat} {b : Int × Int} (h : cl_b t k = some b) (ht : t ≠ 23) : k < 24 := by
  unfold cl_b at h
  split at h <;> first | exact absurd rfl ht | cases h | (split at h <;> first | cases h | omega)
theorem cl_r_k {t k : Nat} {q : Nat × Nat × Bool} (h : cl_r t k = some q) (ht : ¬ (24 ≤ t ∧ t ≤ 26)) : k < 24 := by
  unfold cl_r at h
  split at h <;> first | (exfalso; omega) | cases h | (split at h <;> first | cases h | omega)
def hz_c1 (p k : Nat) : Bool := match cl_b (hz_k zi_A0 p) k with
  | some b => Nat.beq (hz_k zi_A0 p) 23 || (Nat.ble 82 p && Nat.ble p 108) || (decide (b.1 ≤ hz_i (hz_v zi_A0 p k)) && decide (hz_i (hz_v zi_A0 p k) ≤ b.2))
  | none => true
def hz_c2 (p k : Nat) : Bool := match cl_r (hz_k zi_A0 p) k with
  | some q => (Nat.ble 24 (hz_k zi_A0 p) && Nat.ble (hz_k zi_A0 p) 26) || (Nat.ble 82 p && Nat.ble p 108) || (match hz_r (hz_v zi_A0 p k) with
    | none => q.2.2
    | some d => Nat.ble 10 d && Nat.ble (d + 1) 110 && (Nat.ble (d + 1) 82 || Nat.ble 109 d) && Nat.beq (hz_k zi_A0 d) q.1 && (Nat.beq q.2.1 0 || Nat.beq (hz_n zi_A0 d) q.2.1))
  | none => true
theorem hz_c1_all : (List.range 110).all (fun p => (List.range 24).all (fun k => hz_c1 p k)) = true := by decide +kernel
theorem hz_c2_all : (List.range 110).all (fun p => (List.range 24).all (fun k => hz_c2 p k)) = true := by decide +kernel
theorem hz_k_all : (List.range 110).all (fun p => (!Nat.beq (hz_k zi_A0 p) 23 || Nat.beq p 13) && (!Nat.beq (hz_k zi_A0 p) 24 || (Nat.beq p 39 || Nat.beq p 40 || Nat.beq p 47)) && (!Nat.beq (hz_k zi_A0 p) 25 || (Nat.beq p 56 || Nat.beq p 57)) && (!Nat.beq (hz_k zi_A0 p) 26 || Nat.beq p 51) && Nat.ble (hz_n zi_A0 p) 1000000 && (!Nat.beq (hz_k zi_A0 p) 8 || Nat.beq p 49)) = true := by decide +kernel
theorem hz_len : zi_A0.length + 10 = 110 := by decide +kernel
